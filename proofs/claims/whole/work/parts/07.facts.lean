/-! words of the tables, by their places: fields, methods, links -/
set_option maxRecDepth 20000 in
theorem zz_0 : (0 : Nat) = 0 := rfl
set_option maxRecDepth 20000 in
theorem inB0 : ∀ w ∈ u_ws RX0 TX0 1, w ∈ zBIG := zB_r [139] (by decide +kernel) (by decide +kernel)
set_option maxRecDepth 20000 in
theorem inB1 : ∀ w ∈ u_ws RX1 TX1 4, w ∈ zBIG := zB_r [123, 125, 127, 129] (by decide +kernel) (by decide +kernel)
set_option maxRecDepth 20000 in
theorem inB2 : ∀ w ∈ u_ws RX2 TX2 5, w ∈ zBIG := zB_r [100, 102, 104, 106, 108] (by decide +kernel) (by decide +kernel)
set_option maxRecDepth 20000 in
theorem inB3 : ∀ w ∈ u_ws RX3 TX3 2, w ∈ zBIG := zB_r [77, 79] (by decide +kernel) (by decide +kernel)
set_option maxRecDepth 20000 in
theorem inB4 : ∀ w ∈ u_ws RX4 TX4 7, w ∈ zBIG := zB_r [52, 54, 56, 58, 60, 62, 64] (by decide +kernel) (by decide +kernel)
set_option maxRecDepth 20000 in
theorem inB5 : ∀ w ∈ u_ws RX5 TX5 11, w ∈ zBIG := zB_r [153, 155, 157, 159, 161, 163, 165, 167, 169, 171, 173] (by decide +kernel) (by decide +kernel)
set_option maxRecDepth 20000 in
theorem inB6 : ∀ w ∈ u_ws RX6 TX6 35, w ∈ zBIG := zB_r [711, 713, 715, 717, 719, 721, 723, 725, 727, 729, 731, 733, 735, 737, 739, 741, 743, 745, 747, 749, 751, 753, 755, 757, 759, 761, 763, 765, 767, 769, 771, 773, 775, 777, 779] (by decide +kernel) (by decide +kernel)
set_option maxRecDepth 20000 in
theorem ffX5_10 : zF RX5 10 5 0 := ⟨(RX5, TX5, 11), rfl, by decide, inB5, zB_t 142 (by decide +kernel) rfl⟩
set_option maxRecDepth 20000 in
theorem ffX5_16 : zF RX5 16 5 1 := ⟨(RX5, TX5, 11), rfl, by decide, inB5, zB_t 143 (by decide +kernel) rfl⟩
set_option maxRecDepth 20000 in
theorem ffX5_19 : zF RX5 19 5 2 := ⟨(RX5, TX5, 11), rfl, by decide, inB5, zB_t 144 (by decide +kernel) rfl⟩
set_option maxRecDepth 20000 in
theorem ffX5_22 : zF RX5 22 5 3 := ⟨(RX5, TX5, 11), rfl, by decide, inB5, zB_t 145 (by decide +kernel) rfl⟩
set_option maxRecDepth 20000 in
theorem ffX5_29 : zF RX5 29 5 4 := ⟨(RX5, TX5, 11), rfl, by decide, inB5, zB_t 146 (by decide +kernel) rfl⟩
set_option maxRecDepth 20000 in
theorem ffX5_36 : zF RX5 36 5 5 := ⟨(RX5, TX5, 11), rfl, by decide, inB5, zB_t 147 (by decide +kernel) rfl⟩
set_option maxRecDepth 20000 in
theorem ffX5_43 : zF RX5 43 5 6 := ⟨(RX5, TX5, 11), rfl, by decide, inB5, zB_t 148 (by decide +kernel) rfl⟩
set_option maxRecDepth 20000 in
theorem ffX5_50 : zF RX5 50 5 7 := ⟨(RX5, TX5, 11), rfl, by decide, inB5, zB_t 149 (by decide +kernel) rfl⟩
set_option maxRecDepth 20000 in
theorem ffX5_54 : zF RX5 54 5 8 := ⟨(RX5, TX5, 11), rfl, by decide, inB5, zB_t 150 (by decide +kernel) rfl⟩
set_option maxRecDepth 20000 in
theorem ffX5_58 : zF RX5 58 5 9 := ⟨(RX5, TX5, 11), rfl, by decide, inB5, zB_t 151 (by decide +kernel) rfl⟩
set_option maxRecDepth 20000 in
theorem ffX5_62 : zF RX5 62 5 10 := ⟨(RX5, TX5, 11), rfl, by decide, inB5, zB_t 152 (by decide +kernel) rfl⟩
set_option maxRecDepth 20000 in
theorem ffX5_98 : zF RX5 98 4 1 := ⟨(RX4, TX4, 7), rfl, by decide, inB4, zB_t 35 (by decide +kernel) rfl⟩
set_option maxRecDepth 20000 in
theorem ffX5_101 : zF RX5 101 4 2 := ⟨(RX4, TX4, 7), rfl, by decide, inB4, zB_t 39 (by decide +kernel) rfl⟩
set_option maxRecDepth 20000 in
theorem ffX5_122 : zF RX5 122 4 4 := ⟨(RX4, TX4, 7), rfl, by decide, inB4, zB_t 43 (by decide +kernel) rfl⟩
set_option maxRecDepth 20000 in
theorem ffX5_125 : zF RX5 125 4 5 := ⟨(RX4, TX4, 7), rfl, by decide, inB4, zB_t 47 (by decide +kernel) rfl⟩
set_option maxRecDepth 20000 in
theorem ffX5_131 : zF RX5 131 4 6 := ⟨(RX4, TX4, 7), rfl, by decide, inB4, zB_t 50 (by decide +kernel) rfl⟩
set_option maxRecDepth 20000 in
theorem ffX5_137 : zF RX5 137 2 0 := ⟨(RX2, TX2, 5), rfl, by decide, inB2, zB_t 91 (by decide +kernel) rfl⟩
set_option maxRecDepth 20000 in
theorem ffX5_142 : zF RX5 142 2 1 := ⟨(RX2, TX2, 5), rfl, by decide, inB2, zB_t 93 (by decide +kernel) rfl⟩
set_option maxRecDepth 20000 in
theorem ffX5_145 : zF RX5 145 2 2 := ⟨(RX2, TX2, 5), rfl, by decide, inB2, zB_t 96 (by decide +kernel) rfl⟩
set_option maxRecDepth 20000 in
theorem ffX5_158 : zF RX5 158 1 0 := ⟨(RX1, TX1, 4), rfl, by decide, inB1, zB_t 118 (by decide +kernel) rfl⟩
set_option maxRecDepth 20000 in
theorem ffX5_164 : zF RX5 164 2 3 := ⟨(RX2, TX2, 5), rfl, by decide, inB2, zB_t 98 (by decide +kernel) rfl⟩
set_option maxRecDepth 20000 in
theorem ffX5_189 : zF RX5 189 4 0 := ⟨(RX4, TX4, 7), rfl, by decide, inB4, zB_t 33 (by decide +kernel) rfl⟩
set_option maxRecDepth 20000 in
theorem ffX5_208 : zF RX5 208 3 1 := ⟨(RX3, TX3, 2), rfl, by decide, inB3, zB_t 76 (by decide +kernel) rfl⟩
set_option maxRecDepth 20000 in
theorem ffX5_215 : zF RX5 215 1 1 := ⟨(RX1, TX1, 4), rfl, by decide, inB1, zB_t 120 (by decide +kernel) rfl⟩
set_option maxRecDepth 20000 in
theorem ffX0_9 : zF RX0 9 0 0 := ⟨(RX0, TX0, 1), rfl, by decide, inB0, zB_t 138 (by decide +kernel) rfl⟩
set_option maxRecDepth 20000 in
theorem ffX0_15 : zF RX0 15 4 0 := ⟨(RX4, TX4, 7), rfl, by decide, inB4, zB_t 31 (by decide +kernel) rfl⟩
set_option maxRecDepth 20000 in
theorem ffX1_9 : zF RX1 9 1 0 := ⟨(RX1, TX1, 4), rfl, by decide, inB1, zB_t 117 (by decide +kernel) rfl⟩
set_option maxRecDepth 20000 in
theorem ffX1_15 : zF RX1 15 1 1 := ⟨(RX1, TX1, 4), rfl, by decide, inB1, zB_t 119 (by decide +kernel) rfl⟩
set_option maxRecDepth 20000 in
theorem ffX1_18 : zF RX1 18 1 2 := ⟨(RX1, TX1, 4), rfl, by decide, inB1, zB_t 121 (by decide +kernel) rfl⟩
set_option maxRecDepth 20000 in
theorem ffX1_21 : zF RX1 21 1 3 := ⟨(RX1, TX1, 4), rfl, by decide, inB1, zB_t 122 (by decide +kernel) rfl⟩
set_option maxRecDepth 20000 in
theorem ffX1_28 : zF RX1 28 2 2 := ⟨(RX2, TX2, 5), rfl, by decide, inB2, zB_t 95 (by decide +kernel) rfl⟩
set_option maxRecDepth 20000 in
theorem ffX2_11 : zF RX2 11 2 0 := ⟨(RX2, TX2, 5), rfl, by decide, inB2, zB_t 90 (by decide +kernel) rfl⟩
set_option maxRecDepth 20000 in
theorem ffX2_16 : zF RX2 16 2 1 := ⟨(RX2, TX2, 5), rfl, by decide, inB2, zB_t 92 (by decide +kernel) rfl⟩
set_option maxRecDepth 20000 in
theorem ffX2_19 : zF RX2 19 2 2 := ⟨(RX2, TX2, 5), rfl, by decide, inB2, zB_t 94 (by decide +kernel) rfl⟩
set_option maxRecDepth 20000 in
theorem ffX2_23 : zF RX2 23 2 3 := ⟨(RX2, TX2, 5), rfl, by decide, inB2, zB_t 97 (by decide +kernel) rfl⟩
set_option maxRecDepth 20000 in
theorem ffX2_27 : zF RX2 27 2 4 := ⟨(RX2, TX2, 5), rfl, by decide, inB2, zB_t 99 (by decide +kernel) rfl⟩
set_option maxRecDepth 20000 in
theorem ffX2_48 : zF RX2 48 4 5 := ⟨(RX4, TX4, 7), rfl, by decide, inB4, zB_t 46 (by decide +kernel) rfl⟩
set_option maxRecDepth 20000 in
theorem ffX2_51 : zF RX2 51 4 4 := ⟨(RX4, TX4, 7), rfl, by decide, inB4, zB_t 42 (by decide +kernel) rfl⟩
set_option maxRecDepth 20000 in
theorem ffX2_71 : zF RX2 71 4 2 := ⟨(RX4, TX4, 7), rfl, by decide, inB4, zB_t 38 (by decide +kernel) rfl⟩
set_option maxRecDepth 20000 in
theorem ffX2_80 : zF RX2 80 4 1 := ⟨(RX4, TX4, 7), rfl, by decide, inB4, zB_t 36 (by decide +kernel) rfl⟩
set_option maxRecDepth 20000 in
theorem ffX2_97 : zF RX2 97 4 0 := ⟨(RX4, TX4, 7), rfl, by decide, inB4, zB_t 32 (by decide +kernel) rfl⟩
set_option maxRecDepth 20000 in
theorem ffX3_11 : zF RX3 11 3 0 := ⟨(RX3, TX3, 2), rfl, by decide, inB3, zB_t 74 (by decide +kernel) rfl⟩
set_option maxRecDepth 20000 in
theorem ffX3_15 : zF RX3 15 3 1 := ⟨(RX3, TX3, 2), rfl, by decide, inB3, zB_t 75 (by decide +kernel) rfl⟩
set_option maxRecDepth 20000 in
theorem ffX3_91 : zF RX3 91 4 4 := ⟨(RX4, TX4, 7), rfl, by decide, inB4, zB_t 44 (by decide +kernel) rfl⟩
set_option maxRecDepth 20000 in
theorem ffX3_94 : zF RX3 94 4 5 := ⟨(RX4, TX4, 7), rfl, by decide, inB4, zB_t 48 (by decide +kernel) rfl⟩
set_option maxRecDepth 20000 in
theorem ffX3_101 : zF RX3 101 4 6 := ⟨(RX4, TX4, 7), rfl, by decide, inB4, zB_t 51 (by decide +kernel) rfl⟩
set_option maxRecDepth 20000 in
theorem ffX4_9 : zF RX4 9 4 0 := ⟨(RX4, TX4, 7), rfl, by decide, inB4, zB_t 30 (by decide +kernel) rfl⟩
set_option maxRecDepth 20000 in
theorem ffX4_15 : zF RX4 15 4 1 := ⟨(RX4, TX4, 7), rfl, by decide, inB4, zB_t 34 (by decide +kernel) rfl⟩
set_option maxRecDepth 20000 in
theorem ffX4_18 : zF RX4 18 4 2 := ⟨(RX4, TX4, 7), rfl, by decide, inB4, zB_t 37 (by decide +kernel) rfl⟩
set_option maxRecDepth 20000 in
theorem ffX4_21 : zF RX4 21 4 3 := ⟨(RX4, TX4, 7), rfl, by decide, inB4, zB_t 40 (by decide +kernel) rfl⟩
set_option maxRecDepth 20000 in
theorem ffX4_24 : zF RX4 24 4 4 := ⟨(RX4, TX4, 7), rfl, by decide, inB4, zB_t 41 (by decide +kernel) rfl⟩
set_option maxRecDepth 20000 in
theorem ffX4_28 : zF RX4 28 4 5 := ⟨(RX4, TX4, 7), rfl, by decide, inB4, zB_t 45 (by decide +kernel) rfl⟩
set_option maxRecDepth 20000 in
theorem ffX4_31 : zF RX4 31 4 6 := ⟨(RX4, TX4, 7), rfl, by decide, inB4, zB_t 49 (by decide +kernel) rfl⟩
set_option maxRecDepth 20000 in
theorem ffX6_7 : zF RX6 7 6 0 := ⟨(RX6, TX6, 35), rfl, by decide, inB6, zB_t 676 (by decide +kernel) rfl⟩
set_option maxRecDepth 20000 in
theorem ffX6_13 : zF RX6 13 6 1 := ⟨(RX6, TX6, 35), rfl, by decide, inB6, zB_t 677 (by decide +kernel) rfl⟩
set_option maxRecDepth 20000 in
theorem ffX6_16 : zF RX6 16 6 2 := ⟨(RX6, TX6, 35), rfl, by decide, inB6, zB_t 678 (by decide +kernel) rfl⟩
set_option maxRecDepth 20000 in
theorem ffX6_19 : zF RX6 19 6 3 := ⟨(RX6, TX6, 35), rfl, by decide, inB6, zB_t 679 (by decide +kernel) rfl⟩
set_option maxRecDepth 20000 in
theorem ffX6_22 : zF RX6 22 6 4 := ⟨(RX6, TX6, 35), rfl, by decide, inB6, zB_t 680 (by decide +kernel) rfl⟩
set_option maxRecDepth 20000 in
theorem ffX6_25 : zF RX6 25 6 5 := ⟨(RX6, TX6, 35), rfl, by decide, inB6, zB_t 681 (by decide +kernel) rfl⟩
set_option maxRecDepth 20000 in
theorem ffX6_28 : zF RX6 28 6 6 := ⟨(RX6, TX6, 35), rfl, by decide, inB6, zB_t 682 (by decide +kernel) rfl⟩
set_option maxRecDepth 20000 in
theorem ffX6_31 : zF RX6 31 6 7 := ⟨(RX6, TX6, 35), rfl, by decide, inB6, zB_t 683 (by decide +kernel) rfl⟩
set_option maxRecDepth 20000 in
theorem ffX6_35 : zF RX6 35 6 8 := ⟨(RX6, TX6, 35), rfl, by decide, inB6, zB_t 684 (by decide +kernel) rfl⟩
set_option maxRecDepth 20000 in
theorem ffX6_38 : zF RX6 38 6 9 := ⟨(RX6, TX6, 35), rfl, by decide, inB6, zB_t 685 (by decide +kernel) rfl⟩
set_option maxRecDepth 20000 in
theorem ffX6_41 : zF RX6 41 6 10 := ⟨(RX6, TX6, 35), rfl, by decide, inB6, zB_t 686 (by decide +kernel) rfl⟩
set_option maxRecDepth 20000 in
theorem ffX6_44 : zF RX6 44 6 11 := ⟨(RX6, TX6, 35), rfl, by decide, inB6, zB_t 687 (by decide +kernel) rfl⟩
set_option maxRecDepth 20000 in
theorem ffX6_47 : zF RX6 47 6 12 := ⟨(RX6, TX6, 35), rfl, by decide, inB6, zB_t 688 (by decide +kernel) rfl⟩
set_option maxRecDepth 20000 in
theorem ffX6_50 : zF RX6 50 6 13 := ⟨(RX6, TX6, 35), rfl, by decide, inB6, zB_t 689 (by decide +kernel) rfl⟩
set_option maxRecDepth 20000 in
theorem ffX6_53 : zF RX6 53 6 14 := ⟨(RX6, TX6, 35), rfl, by decide, inB6, zB_t 690 (by decide +kernel) rfl⟩
set_option maxRecDepth 20000 in
theorem ffX6_56 : zF RX6 56 6 15 := ⟨(RX6, TX6, 35), rfl, by decide, inB6, zB_t 691 (by decide +kernel) rfl⟩
set_option maxRecDepth 20000 in
theorem ffX6_59 : zF RX6 59 6 16 := ⟨(RX6, TX6, 35), rfl, by decide, inB6, zB_t 692 (by decide +kernel) rfl⟩
set_option maxRecDepth 20000 in
theorem ffX6_62 : zF RX6 62 6 17 := ⟨(RX6, TX6, 35), rfl, by decide, inB6, zB_t 693 (by decide +kernel) rfl⟩
set_option maxRecDepth 20000 in
theorem ffX6_65 : zF RX6 65 6 18 := ⟨(RX6, TX6, 35), rfl, by decide, inB6, zB_t 694 (by decide +kernel) rfl⟩
set_option maxRecDepth 20000 in
theorem ffX6_68 : zF RX6 68 6 19 := ⟨(RX6, TX6, 35), rfl, by decide, inB6, zB_t 695 (by decide +kernel) rfl⟩
set_option maxRecDepth 20000 in
theorem ffX6_71 : zF RX6 71 6 20 := ⟨(RX6, TX6, 35), rfl, by decide, inB6, zB_t 696 (by decide +kernel) rfl⟩
set_option maxRecDepth 20000 in
theorem ffX6_74 : zF RX6 74 6 21 := ⟨(RX6, TX6, 35), rfl, by decide, inB6, zB_t 697 (by decide +kernel) rfl⟩
set_option maxRecDepth 20000 in
theorem ffX6_77 : zF RX6 77 6 22 := ⟨(RX6, TX6, 35), rfl, by decide, inB6, zB_t 698 (by decide +kernel) rfl⟩
set_option maxRecDepth 20000 in
theorem ffX6_80 : zF RX6 80 6 23 := ⟨(RX6, TX6, 35), rfl, by decide, inB6, zB_t 699 (by decide +kernel) rfl⟩
set_option maxRecDepth 20000 in
theorem ffX6_83 : zF RX6 83 6 24 := ⟨(RX6, TX6, 35), rfl, by decide, inB6, zB_t 700 (by decide +kernel) rfl⟩
set_option maxRecDepth 20000 in
theorem ffX6_86 : zF RX6 86 6 25 := ⟨(RX6, TX6, 35), rfl, by decide, inB6, zB_t 701 (by decide +kernel) rfl⟩
set_option maxRecDepth 20000 in
theorem ffX6_89 : zF RX6 89 6 26 := ⟨(RX6, TX6, 35), rfl, by decide, inB6, zB_t 702 (by decide +kernel) rfl⟩
set_option maxRecDepth 20000 in
theorem ffX6_93 : zF RX6 93 6 27 := ⟨(RX6, TX6, 35), rfl, by decide, inB6, zB_t 703 (by decide +kernel) rfl⟩
set_option maxRecDepth 20000 in
theorem ffX6_96 : zF RX6 96 6 28 := ⟨(RX6, TX6, 35), rfl, by decide, inB6, zB_t 704 (by decide +kernel) rfl⟩
set_option maxRecDepth 20000 in
theorem ffX6_99 : zF RX6 99 6 29 := ⟨(RX6, TX6, 35), rfl, by decide, inB6, zB_t 705 (by decide +kernel) rfl⟩
set_option maxRecDepth 20000 in
theorem ffX6_102 : zF RX6 102 6 30 := ⟨(RX6, TX6, 35), rfl, by decide, inB6, zB_t 706 (by decide +kernel) rfl⟩
set_option maxRecDepth 20000 in
theorem ffX6_105 : zF RX6 105 6 31 := ⟨(RX6, TX6, 35), rfl, by decide, inB6, zB_t 707 (by decide +kernel) rfl⟩
set_option maxRecDepth 20000 in
theorem ffX6_108 : zF RX6 108 6 32 := ⟨(RX6, TX6, 35), rfl, by decide, inB6, zB_t 708 (by decide +kernel) rfl⟩
set_option maxRecDepth 20000 in
theorem ffX6_111 : zF RX6 111 6 33 := ⟨(RX6, TX6, 35), rfl, by decide, inB6, zB_t 709 (by decide +kernel) rfl⟩
set_option maxRecDepth 20000 in
theorem ffX6_114 : zF RX6 114 6 34 := ⟨(RX6, TX6, 35), rfl, by decide, inB6, zB_t 710 (by decide +kernel) rfl⟩
set_option maxRecDepth 20000 in
theorem fp2_3 : zFp 2 3 .int := ⟨(RX2, TX2, 5), tyX2, rfl, tyX2_ok, nmX2, rfl, rfl⟩
set_option maxRecDepth 20000 in
theorem fp2_4 : zFp 2 4 .int := ⟨(RX2, TX2, 5), tyX2, rfl, tyX2_ok, nmX2, rfl, rfl⟩
set_option maxRecDepth 20000 in
theorem fp3_1 : zFp 3 1 .int := ⟨(RX3, TX3, 2), tyX3, rfl, tyX3_ok, nmX3, rfl, rfl⟩
set_option maxRecDepth 20000 in
theorem fp4_4 : zFp 4 4 .int := ⟨(RX4, TX4, 7), tyX4, rfl, tyX4_ok, nmX4, rfl, rfl⟩
set_option maxRecDepth 20000 in
theorem fp4_5 : zFp 4 5 .int := ⟨(RX4, TX4, 7), tyX4, rfl, tyX4_ok, nmX4, rfl, rfl⟩
set_option maxRecDepth 20000 in
theorem fp4_6 : zFp 4 6 .int := ⟨(RX4, TX4, 7), tyX4, rfl, tyX4_ok, nmX4, rfl, rfl⟩
set_option maxRecDepth 20000 in
theorem fp5_3 : zFp 5 3 .boolean := ⟨(RX5, TX5, 11), tyX5, rfl, tyX5_ok, nmX5, rfl, rfl⟩
set_option maxRecDepth 20000 in
theorem fp5_9 : zFp 5 9 .int := ⟨(RX5, TX5, 11), tyX5, rfl, tyX5_ok, nmX5, rfl, rfl⟩
set_option maxRecDepth 20000 in
theorem fp6_0 : zFp 6 0 .int := ⟨(RX6, TX6, 35), tyX6, rfl, tyX6_ok, nmX6, rfl, rfl⟩
set_option maxRecDepth 20000 in
theorem fp6_1 : zFp 6 1 .int := ⟨(RX6, TX6, 35), tyX6, rfl, tyX6_ok, nmX6, rfl, rfl⟩
set_option maxRecDepth 20000 in
theorem fp6_2 : zFp 6 2 .int := ⟨(RX6, TX6, 35), tyX6, rfl, tyX6_ok, nmX6, rfl, rfl⟩
set_option maxRecDepth 20000 in
theorem fp6_3 : zFp 6 3 .int := ⟨(RX6, TX6, 35), tyX6, rfl, tyX6_ok, nmX6, rfl, rfl⟩
set_option maxRecDepth 20000 in
theorem fp6_4 : zFp 6 4 .int := ⟨(RX6, TX6, 35), tyX6, rfl, tyX6_ok, nmX6, rfl, rfl⟩
set_option maxRecDepth 20000 in
theorem fp6_5 : zFp 6 5 .int := ⟨(RX6, TX6, 35), tyX6, rfl, tyX6_ok, nmX6, rfl, rfl⟩
set_option maxRecDepth 20000 in
theorem fp6_6 : zFp 6 6 .int := ⟨(RX6, TX6, 35), tyX6, rfl, tyX6_ok, nmX6, rfl, rfl⟩
set_option maxRecDepth 20000 in
theorem fp6_13 : zFp 6 13 .int := ⟨(RX6, TX6, 35), tyX6, rfl, tyX6_ok, nmX6, rfl, rfl⟩
set_option maxRecDepth 20000 in
theorem fp6_14 : zFp 6 14 .int := ⟨(RX6, TX6, 35), tyX6, rfl, tyX6_ok, nmX6, rfl, rfl⟩
set_option maxRecDepth 20000 in
theorem fp6_15 : zFp 6 15 .int := ⟨(RX6, TX6, 35), tyX6, rfl, tyX6_ok, nmX6, rfl, rfl⟩
set_option maxRecDepth 20000 in
theorem fp6_16 : zFp 6 16 .int := ⟨(RX6, TX6, 35), tyX6, rfl, tyX6_ok, nmX6, rfl, rfl⟩
set_option maxRecDepth 20000 in
theorem fp6_17 : zFp 6 17 .int := ⟨(RX6, TX6, 35), tyX6, rfl, tyX6_ok, nmX6, rfl, rfl⟩
set_option maxRecDepth 20000 in
theorem fp6_24 : zFp 6 24 .int := ⟨(RX6, TX6, 35), tyX6, rfl, tyX6_ok, nmX6, rfl, rfl⟩
set_option maxRecDepth 20000 in
theorem fp6_26 : zFp 6 26 .boolean := ⟨(RX6, TX6, 35), tyX6, rfl, tyX6_ok, nmX6, rfl, rfl⟩
set_option maxRecDepth 20000 in
theorem fp6_27 : zFp 6 27 .int := ⟨(RX6, TX6, 35), tyX6, rfl, tyX6_ok, nmX6, rfl, rfl⟩
set_option maxRecDepth 20000 in
theorem fp6_28 : zFp 6 28 .int := ⟨(RX6, TX6, 35), tyX6, rfl, tyX6_ok, nmX6, rfl, rfl⟩
set_option maxRecDepth 20000 in
theorem fp6_29 : zFp 6 29 .int := ⟨(RX6, TX6, 35), tyX6, rfl, tyX6_ok, nmX6, rfl, rfl⟩
set_option maxRecDepth 20000 in
theorem fp6_30 : zFp 6 30 .int := ⟨(RX6, TX6, 35), tyX6, rfl, tyX6_ok, nmX6, rfl, rfl⟩
set_option maxRecDepth 20000 in
theorem fp6_31 : zFp 6 31 .int := ⟨(RX6, TX6, 35), tyX6, rfl, tyX6_ok, nmX6, rfl, rfl⟩
set_option maxRecDepth 20000 in
theorem yyX0_letAllGo : zYv yX0_letAllGo cX0_letAllGo 2 none 0 := ⟨⟨zB_t 590 (by decide +kernel) rfl, zB_t 6 (by decide +kernel) rfl, by decide +kernel, by decide +kernel, by decide +kernel⟩, zB_t 588 (by decide +kernel) rfl, zB_t 589 (by decide +kernel) rfl⟩
set_option maxRecDepth 20000 in
theorem yyX0_give : zYv yX0_give cX0_give 3 (some (.boolean)) 2 := ⟨⟨zB_t 595 (by decide +kernel) rfl, zB_t 6 (by decide +kernel) rfl, by decide +kernel, by decide +kernel, by decide +kernel⟩, zB_t 593 (by decide +kernel) rfl, zB_t 594 (by decide +kernel) rfl⟩
set_option maxRecDepth 20000 in
theorem yyX0_firmWays : zYv yX0_firmWays cX0_firmWays 7 (some (.int)) 1 := ⟨⟨zB_t 582 (by decide +kernel) rfl, zB_t 6 (by decide +kernel) rfl, by decide +kernel, by decide +kernel, by decide +kernel⟩, zB_t 580 (by decide +kernel) rfl, zB_t 581 (by decide +kernel) rfl⟩
set_option maxRecDepth 20000 in
theorem yyX0_giveByCode : zYv yX0_giveByCode cX0_giveByCode 8 (some (.boolean)) 3 := ⟨⟨zB_t 586 (by decide +kernel) rfl, zB_t 6 (by decide +kernel) rfl, by decide +kernel, by decide +kernel, by decide +kernel⟩, zB_t 585 (by decide +kernel) rfl, zB_s 16 (by decide +kernel) rfl⟩
set_option maxRecDepth 20000 in
theorem yyX0_firstWhoWouldRather : zYv yX0_firstWhoWouldRather cX0_firstWhoWouldRather 5 (some (.int)) 1 := ⟨⟨zB_t 599 (by decide +kernel) rfl, zB_t 6 (by decide +kernel) rfl, by decide +kernel, by decide +kernel, by decide +kernel⟩, zB_t 597 (by decide +kernel) rfl, zB_t 598 (by decide +kernel) rfl⟩
set_option maxRecDepth 20000 in
theorem yyX0_wouldRather : zYv yX0_wouldRather cX0_wouldRather 4 (some (.boolean)) 3 := ⟨⟨zB_t 603 (by decide +kernel) rfl, zB_t 6 (by decide +kernel) rfl, by decide +kernel, by decide +kernel, by decide +kernel⟩, zB_t 602 (by decide +kernel) rfl, zB_s 17 (by decide +kernel) rfl⟩
set_option maxRecDepth 20000 in
theorem yyX1_settle : zYv yX1_settle cX1_settle 7 none 3 := ⟨⟨zB_t 497 (by decide +kernel) rfl, zB_t 5 (by decide +kernel) rfl, by decide +kernel, by decide +kernel, by decide +kernel⟩, zB_t 495 (by decide +kernel) rfl, zB_t 496 (by decide +kernel) rfl⟩
set_option maxRecDepth 20000 in
theorem yyX1_validYeses : zYv yX1_validYeses cX1_validYeses 5 (some (.int)) 4 := ⟨⟨zB_t 528 (by decide +kernel) rfl, zB_t 5 (by decide +kernel) rfl, by decide +kernel, by decide +kernel, by decide +kernel⟩, zB_t 527 (by decide +kernel) rfl, zB_s 14 (by decide +kernel) rfl⟩
set_option maxRecDepth 20000 in
theorem yyX1_howMany : zYv yX1_howMany cX1_howMany 3 (some (.int)) 0 := ⟨⟨zB_t 535 (by decide +kernel) rfl, zB_t 5 (by decide +kernel) rfl, by decide +kernel, by decide +kernel, by decide +kernel⟩, zB_t 533 (by decide +kernel) rfl, zB_t 534 (by decide +kernel) rfl⟩
set_option maxRecDepth 20000 in
theorem yyX1_gladness : zYv yX1_gladness cX1_gladness 5 (some (.int)) 1 := ⟨⟨zB_t 549 (by decide +kernel) rfl, zB_t 5 (by decide +kernel) rfl, by decide +kernel, by decide +kernel, by decide +kernel⟩, zB_t 547 (by decide +kernel) rfl, zB_t 548 (by decide +kernel) rfl⟩
set_option maxRecDepth 20000 in
theorem yyX1_likedMost : zYs yX1_likedMost cX1_likedMost 7 (some (.int)) 4 := ⟨⟨zB_t 531 (by decide +kernel) rfl, zB_t 5 (by decide +kernel) rfl, by decide +kernel, by decide +kernel, by decide +kernel⟩, zB_t 530 (by decide +kernel) rfl⟩
set_option maxRecDepth 20000 in
theorem yyX1_favourite : zYs yX1_favourite cX1_favourite 7 (some (.int)) 3 := ⟨⟨zB_t 518 (by decide +kernel) rfl, zB_t 5 (by decide +kernel) rfl, by decide +kernel, by decide +kernel, by decide +kernel⟩, zB_t 517 (by decide +kernel) rfl⟩
set_option maxRecDepth 20000 in
theorem yyX1_askInTurn : zYv yX1_askInTurn cX1_askInTurn 6 none 2 := ⟨⟨zB_t 501 (by decide +kernel) rfl, zB_t 5 (by decide +kernel) rfl, by decide +kernel, by decide +kernel, by decide +kernel⟩, zB_t 499 (by decide +kernel) rfl, zB_t 500 (by decide +kernel) rfl⟩
set_option maxRecDepth 20000 in
theorem yyX1_firstWhoWillAsk : zYv yX1_firstWhoWillAsk cX1_firstWhoWillAsk 2 (some (.int)) 0 := ⟨⟨zB_t 511 (by decide +kernel) rfl, zB_t 5 (by decide +kernel) rfl, by decide +kernel, by decide +kernel, by decide +kernel⟩, zB_t 510 (by decide +kernel) rfl, zB_s 12 (by decide +kernel) rfl⟩
set_option maxRecDepth 20000 in
theorem yyX1_ask : zYv yX1_ask cX1_ask 5 none 2 := ⟨⟨zB_t 515 (by decide +kernel) rfl, zB_t 5 (by decide +kernel) rfl, by decide +kernel, by decide +kernel, by decide +kernel⟩, zB_t 514 (by decide +kernel) rfl, zB_s 13 (by decide +kernel) rfl⟩
set_option maxRecDepth 20000 in
theorem yyX1_isLikedBefore : zYs yX1_isLikedBefore cX1_isLikedBefore 6 (some (.boolean)) 4 := ⟨⟨zB_t 524 (by decide +kernel) rfl, zB_t 5 (by decide +kernel) rfl, by decide +kernel, by decide +kernel, by decide +kernel⟩, zB_t 523 (by decide +kernel) rfl⟩
set_option maxRecDepth 20000 in
theorem yyX2_hold : zYv yX2_hold cX2_hold 5 none 1 := ⟨⟨zB_t 399 (by decide +kernel) rfl, zB_t 4 (by decide +kernel) rfl, by decide +kernel, by decide +kernel, by decide +kernel⟩, zB_t 397 (by decide +kernel) rfl, zB_t 398 (by decide +kernel) rfl⟩
set_option maxRecDepth 20000 in
theorem yyX2_partner : zYv yX2_partner cX2_partner 7 (some (.int)) 3 := ⟨⟨zB_t 409 (by decide +kernel) rfl, zB_t 4 (by decide +kernel) rfl, by decide +kernel, by decide +kernel, by decide +kernel⟩, zB_t 408 (by decide +kernel) rfl, zB_s 7 (by decide +kernel) rfl⟩
set_option maxRecDepth 20000 in
theorem yyX2_feelAndSay : zYv yX2_feelAndSay cX2_feelAndSay 6 none 3 := ⟨⟨zB_t 420 (by decide +kernel) rfl, zB_t 4 (by decide +kernel) rfl, by decide +kernel, by decide +kernel, by decide +kernel⟩, zB_t 419 (by decide +kernel) rfl, zB_s 8 (by decide +kernel) rfl⟩
set_option maxRecDepth 20000 in
theorem yyX2_feeling : zYv yX2_feeling cX2_feeling 6 (some (.int)) 4 := ⟨⟨zB_t 424 (by decide +kernel) rfl, zB_t 4 (by decide +kernel) rfl, by decide +kernel, by decide +kernel, by decide +kernel⟩, zB_t 423 (by decide +kernel) rfl, zB_s 9 (by decide +kernel) rfl⟩
set_option maxRecDepth 20000 in
theorem yyX2_isInShade : zYv yX2_isInShade cX2_isInShade 5 (some (.boolean)) 4 := ⟨⟨zB_t 432 (by decide +kernel) rfl, zB_t 4 (by decide +kernel) rfl, by decide +kernel, by decide +kernel, by decide +kernel⟩, zB_t 431 (by decide +kernel) rfl, zB_s 10 (by decide +kernel) rfl⟩
set_option maxRecDepth 20000 in
theorem yyX2_wasAlone : zYv yX2_wasAlone cX2_wasAlone 3 (some (.boolean)) 2 := ⟨⟨zB_t 436 (by decide +kernel) rfl, zB_t 4 (by decide +kernel) rfl, by decide +kernel, by decide +kernel, by decide +kernel⟩, zB_t 435 (by decide +kernel) rfl, zB_s 11 (by decide +kernel) rfl⟩
set_option maxRecDepth 20000 in
theorem yyX2_gaps : zYv yX2_gaps cX2_gaps 4 (some (.int)) 1 := ⟨⟨zB_t 443 (by decide +kernel) rfl, zB_t 4 (by decide +kernel) rfl, by decide +kernel, by decide +kernel, by decide +kernel⟩, zB_t 441 (by decide +kernel) rfl, zB_t 442 (by decide +kernel) rfl⟩
set_option maxRecDepth 20000 in
theorem yyX2_allGaps : zYv yX2_allGaps cX2_allGaps 4 (some (.int)) 1 := ⟨⟨zB_t 668 (by decide +kernel) rfl, zB_t 4 (by decide +kernel) rfl, by decide +kernel, by decide +kernel, by decide +kernel⟩, zB_t 666 (by decide +kernel) rfl, zB_t 667 (by decide +kernel) rfl⟩
set_option maxRecDepth 20000 in
theorem yyX2_saysYes : zYv yX2_saysYes cX2_saysYes 3 (some (.boolean)) 2 := ⟨⟨zB_t 489 (by decide +kernel) rfl, zB_t 4 (by decide +kernel) rfl, by decide +kernel, by decide +kernel, by decide +kernel⟩, zB_t 487 (by decide +kernel) rfl, zB_t 488 (by decide +kernel) rfl⟩
set_option maxRecDepth 20000 in
theorem yyX2_slipsFor : zYv yX2_slipsFor cX2_slipsFor 5 (some (.int)) 1 := ⟨⟨zB_t 485 (by decide +kernel) rfl, zB_t 4 (by decide +kernel) rfl, by decide +kernel, by decide +kernel, by decide +kernel⟩, zB_t 483 (by decide +kernel) rfl, zB_t 484 (by decide +kernel) rfl⟩
set_option maxRecDepth 20000 in
theorem yyX2_letAllMeetAll : zYv yX2_letAllMeetAll cX2_letAllMeetAll 7 (some (.boolean)) 1 := ⟨⟨zB_t 561 (by decide +kernel) rfl, zB_t 4 (by decide +kernel) rfl, by decide +kernel, by decide +kernel, by decide +kernel⟩, zB_t 559 (by decide +kernel) rfl, zB_t 560 (by decide +kernel) rfl⟩
set_option maxRecDepth 20000 in
theorem yyX3_isFull : zYv yX3_isFull cX3_isFull 1 (some (.boolean)) 0 := ⟨⟨zB_t 187 (by decide +kernel) rfl, zB_t 3 (by decide +kernel) rfl, by decide +kernel, by decide +kernel, by decide +kernel⟩, zB_t 185 (by decide +kernel) rfl, zB_t 186 (by decide +kernel) rfl⟩
set_option maxRecDepth 20000 in
theorem yyX3_add : zYv yX3_add cX3_add 2 (some (.int)) 1 := ⟨⟨zB_t 191 (by decide +kernel) rfl, zB_t 3 (by decide +kernel) rfl, by decide +kernel, by decide +kernel, by decide +kernel⟩, zB_t 189 (by decide +kernel) rfl, zB_t 190 (by decide +kernel) rfl⟩
set_option maxRecDepth 20000 in
theorem yyX3_forget : zYv yX3_forget cX3_forget 1 none 0 := ⟨⟨zB_t 327 (by decide +kernel) rfl, zB_t 3 (by decide +kernel) rfl, by decide +kernel, by decide +kernel, by decide +kernel⟩, zB_t 325 (by decide +kernel) rfl, zB_t 326 (by decide +kernel) rfl⟩
set_option maxRecDepth 20000 in
theorem yyX3_firstBadLetter : zYv yX3_firstBadLetter cX3_firstBadLetter 4 (some (.int)) 0 := ⟨⟨zB_t 200 (by decide +kernel) rfl, zB_t 3 (by decide +kernel) rfl, by decide +kernel, by decide +kernel, by decide +kernel⟩, zB_t 198 (by decide +kernel) rfl, zB_t 199 (by decide +kernel) rfl⟩
set_option maxRecDepth 20000 in
theorem yyX3_formBehind : zYs yX3_formBehind cX3_formBehind 1 (some (.object "java/lang/String")) 1 := ⟨⟨zB_t 203 (by decide +kernel) rfl, zB_t 3 (by decide +kernel) rfl, by decide +kernel, by decide +kernel, by decide +kernel⟩, zB_t 202 (by decide +kernel) rfl⟩
set_option maxRecDepth 20000 in
theorem yyX3_fits : zYs yX3_fits cX3_fits 2 (some (.boolean)) 2 := ⟨⟨zB_t 263 (by decide +kernel) rfl, zB_t 3 (by decide +kernel) rfl, by decide +kernel, by decide +kernel, by decide +kernel⟩, zB_t 262 (by decide +kernel) rfl⟩
set_option maxRecDepth 20000 in
theorem yyX3_statements : zYv yX3_statements cX3_statements 3 (some (.int)) 0 := ⟨⟨zB_t 389 (by decide +kernel) rfl, zB_t 3 (by decide +kernel) rfl, by decide +kernel, by decide +kernel, by decide +kernel⟩, zB_t 387 (by decide +kernel) rfl, zB_t 388 (by decide +kernel) rfl⟩
set_option maxRecDepth 20000 in
theorem yyX3_carryOut : zYv yX3_carryOut cX3_carryOut 3 (some (.int)) 1 := ⟨⟨zB_t 338 (by decide +kernel) rfl, zB_t 3 (by decide +kernel) rfl, by decide +kernel, by decide +kernel, by decide +kernel⟩, zB_t 336 (by decide +kernel) rfl, zB_t 337 (by decide +kernel) rfl⟩
set_option maxRecDepth 20000 in
theorem yyX3_carryOutOne : zYv yX3_carryOutOne cX3_carryOutOne 3 (some (.boolean)) 2 := ⟨⟨zB_t 342 (by decide +kernel) rfl, zB_t 3 (by decide +kernel) rfl, by decide +kernel, by decide +kernel, by decide +kernel⟩, zB_t 341 (by decide +kernel) rfl, zB_s 1 (by decide +kernel) rfl⟩
set_option maxRecDepth 20000 in
theorem yyX3_setLiking : zYv yX3_setLiking cX3_setLiking 5 (some (.boolean)) 2 := ⟨⟨zB_t 362 (by decide +kernel) rfl, zB_t 3 (by decide +kernel) rfl, by decide +kernel, by decide +kernel, by decide +kernel⟩, zB_t 361 (by decide +kernel) rfl, zB_s 4 (by decide +kernel) rfl⟩
set_option maxRecDepth 20000 in
theorem yyX3_setOrder : zYv yX3_setOrder cX3_setOrder 5 (some (.boolean)) 2 := ⟨⟨zB_t 378 (by decide +kernel) rfl, zB_t 3 (by decide +kernel) rfl, by decide +kernel, by decide +kernel, by decide +kernel⟩, zB_t 377 (by decide +kernel) rfl, zB_s 5 (by decide +kernel) rfl⟩
set_option maxRecDepth 20000 in
theorem yyX3_setLaw : zYv yX3_setLaw cX3_setLaw 4 (some (.boolean)) 2 := ⟨⟨zB_t 382 (by decide +kernel) rfl, zB_t 3 (by decide +kernel) rfl, by decide +kernel, by decide +kernel, by decide +kernel⟩, zB_t 381 (by decide +kernel) rfl, zB_s 6 (by decide +kernel) rfl⟩
set_option maxRecDepth 20000 in
theorem yyX3_kindAt : zYv yX3_kindAt cX3_kindAt 2 (some (.int)) 1 := ⟨⟨zB_t 346 (by decide +kernel) rfl, zB_t 3 (by decide +kernel) rfl, by decide +kernel, by decide +kernel, by decide +kernel⟩, zB_t 345 (by decide +kernel) rfl, zB_s 2 (by decide +kernel) rfl⟩
set_option maxRecDepth 20000 in
theorem yyX3_digitAt : zYv yX3_digitAt cX3_digitAt 2 (some (.int)) 1 := ⟨⟨zB_t 350 (by decide +kernel) rfl, zB_t 3 (by decide +kernel) rfl, by decide +kernel, by decide +kernel, by decide +kernel⟩, zB_t 349 (by decide +kernel) rfl, zB_s 3 (by decide +kernel) rfl⟩
set_option maxRecDepth 20000 in
theorem yyX4_become : zYv yX4_become cX4_become 2 none 1 := ⟨⟨zB_t 331 (by decide +kernel) rfl, zB_t 2 (by decide +kernel) rfl, by decide +kernel, by decide +kernel, by decide +kernel⟩, zB_t 329 (by decide +kernel) rfl, zB_t 330 (by decide +kernel) rfl⟩
set_option maxRecDepth 20000 in
theorem yyX4_isThere : zYv yX4_isThere cX4_isThere 2 (some (.boolean)) 1 := ⟨⟨zB_t 370 (by decide +kernel) rfl, zB_t 2 (by decide +kernel) rfl, by decide +kernel, by decide +kernel, by decide +kernel⟩, zB_t 368 (by decide +kernel) rfl, zB_t 369 (by decide +kernel) rfl⟩
set_option maxRecDepth 20000 in
theorem yyX4_areUnlike : zYv yX4_areUnlike cX4_areUnlike 3 (some (.boolean)) 2 := ⟨⟨zB_t 366 (by decide +kernel) rfl, zB_t 2 (by decide +kernel) rfl, by decide +kernel, by decide +kernel, by decide +kernel⟩, zB_t 364 (by decide +kernel) rfl, zB_t 365 (by decide +kernel) rfl⟩
set_option maxRecDepth 20000 in
theorem yyX4_howManyPeople : zYv yX4_howManyPeople cX4_howManyPeople 1 (some (.int)) 0 := ⟨⟨zB_t 636 (by decide +kernel) rfl, zB_t 2 (by decide +kernel) rfl, by decide +kernel, by decide +kernel, by decide +kernel⟩, zB_t 634 (by decide +kernel) rfl, zB_t 635 (by decide +kernel) rfl⟩
set_option maxRecDepth 20000 in
theorem yyX4_howManyFacing : zYv yX4_howManyFacing cX4_howManyFacing 2 (some (.int)) 1 := ⟨⟨zB_t 507 (by decide +kernel) rfl, zB_t 2 (by decide +kernel) rfl, by decide +kernel, by decide +kernel, by decide +kernel⟩, zB_t 505 (by decide +kernel) rfl, zB_t 506 (by decide +kernel) rfl⟩
set_option maxRecDepth 20000 in
theorem yyX4_rounds : zYv yX4_rounds cX4_rounds 1 (some (.int)) 0 := ⟨⟨zB_t 403 (by decide +kernel) rfl, zB_t 2 (by decide +kernel) rfl, by decide +kernel, by decide +kernel, by decide +kernel⟩, zB_t 401 (by decide +kernel) rfl, zB_t 402 (by decide +kernel) rfl⟩
set_option maxRecDepth 20000 in
theorem yyX4_isRound : zYv yX4_isRound cX4_isRound 2 (some (.boolean)) 1 := ⟨⟨zB_t 471 (by decide +kernel) rfl, zB_t 2 (by decide +kernel) rfl, by decide +kernel, by decide +kernel, by decide +kernel⟩, zB_t 469 (by decide +kernel) rfl, zB_t 470 (by decide +kernel) rfl⟩
set_option maxRecDepth 20000 in
theorem yyX4_likes : zYv yX4_likes cX4_likes 3 (some (.int)) 2 := ⟨⟨zB_t 428 (by decide +kernel) rfl, zB_t 2 (by decide +kernel) rfl, by decide +kernel, by decide +kernel, by decide +kernel⟩, zB_t 426 (by decide +kernel) rfl, zB_t 427 (by decide +kernel) rfl⟩
set_option maxRecDepth 20000 in
theorem yyX4_setLiking : zYv yX4_setLiking cX4_setLiking 4 none 3 := ⟨⟨zB_t 358 (by decide +kernel) rfl, zB_t 2 (by decide +kernel) rfl, by decide +kernel, by decide +kernel, by decide +kernel⟩, zB_t 356 (by decide +kernel) rfl, zB_t 357 (by decide +kernel) rfl⟩
set_option maxRecDepth 20000 in
theorem yyX4_addPerson : zYv yX4_addPerson cX4_addPerson 6 (some (.boolean)) 3 := ⟨⟨zB_t 354 (by decide +kernel) rfl, zB_t 2 (by decide +kernel) rfl, by decide +kernel, by decide +kernel, by decide +kernel⟩, zB_t 352 (by decide +kernel) rfl, zB_t 353 (by decide +kernel) rfl⟩
set_option maxRecDepth 20000 in
theorem yyX4_drawLikings : zYv yX4_drawLikings cX4_drawLikings 5 (some (.int)) 1 := ⟨⟨zB_t 646 (by decide +kernel) rfl, zB_t 2 (by decide +kernel) rfl, by decide +kernel, by decide +kernel, by decide +kernel⟩, zB_t 644 (by decide +kernel) rfl, zB_t 645 (by decide +kernel) rfl⟩
set_option maxRecDepth 20000 in
theorem yyX5_letter : zYv yX5_letter cX5_letter 2 (some (.int)) 1 := ⟨⟨zB_t 179 (by decide +kernel) rfl, zB_t 1 (by decide +kernel) rfl, by decide +kernel, by decide +kernel, by decide +kernel⟩, zB_t 177 (by decide +kernel) rfl, zB_t 178 (by decide +kernel) rfl⟩
set_option maxRecDepth 20000 in
theorem yyX5_evening : zYv yX5_evening cX5_evening 4 (some (.int)) 0 := ⟨⟨zB_t 196 (by decide +kernel) rfl, zB_t 1 (by decide +kernel) rfl, by decide +kernel, by decide +kernel, by decide +kernel⟩, zB_t 194 (by decide +kernel) rfl, zB_t 195 (by decide +kernel) rfl⟩
set_option maxRecDepth 20000 in
theorem yyX5_person : zYv yX5_person cX5_person 3 (some (.int)) 2 := ⟨⟨zB_t 394 (by decide +kernel) rfl, zB_t 1 (by decide +kernel) rfl, by decide +kernel, by decide +kernel, by decide +kernel⟩, zB_t 392 (by decide +kernel) rfl, zB_t 393 (by decide +kernel) rfl⟩
set_option maxRecDepth 20000 in
theorem yyX5_liking : zYv yX5_liking cX5_liking 3 (some (.int)) 2 := ⟨⟨zB_t 447 (by decide +kernel) rfl, zB_t 1 (by decide +kernel) rfl, by decide +kernel, by decide +kernel, by decide +kernel⟩, zB_t 445 (by decide +kernel) rfl, zB_t 446 (by decide +kernel) rfl⟩
set_option maxRecDepth 20000 in
theorem yyX5_like : zYv yX5_like cX5_like 5 (some (.int)) 3 := ⟨⟨zB_t 453 (by decide +kernel) rfl, zB_t 1 (by decide +kernel) rfl, by decide +kernel, by decide +kernel, by decide +kernel⟩, zB_t 451 (by decide +kernel) rfl, zB_t 452 (by decide +kernel) rfl⟩
set_option maxRecDepth 20000 in
theorem yyX5_order : zYv yX5_order cX5_order 4 (some (.int)) 2 := ⟨⟨zB_t 458 (by decide +kernel) rfl, zB_t 1 (by decide +kernel) rfl, by decide +kernel, by decide +kernel, by decide +kernel⟩, zB_t 456 (by decide +kernel) rfl, zB_t 457 (by decide +kernel) rfl⟩
set_option maxRecDepth 20000 in
theorem yyX5_law : zYv yX5_law cX5_law 3 (some (.int)) 1 := ⟨⟨zB_t 462 (by decide +kernel) rfl, zB_t 1 (by decide +kernel) rfl, by decide +kernel, by decide +kernel, by decide +kernel⟩, zB_t 460 (by decide +kernel) rfl, zB_t 461 (by decide +kernel) rfl⟩
set_option maxRecDepth 20000 in
theorem yyX5_meets : zYv yX5_meets cX5_meets 3 (some (.int)) 2 := ⟨⟨zB_t 467 (by decide +kernel) rfl, zB_t 1 (by decide +kernel) rfl, by decide +kernel, by decide +kernel, by decide +kernel⟩, zB_t 465 (by decide +kernel) rfl, zB_t 466 (by decide +kernel) rfl⟩
set_option maxRecDepth 20000 in
theorem yyX5_felt : zYv yX5_felt cX5_felt 3 (some (.int)) 2 := ⟨⟨zB_t 476 (by decide +kernel) rfl, zB_t 1 (by decide +kernel) rfl, by decide +kernel, by decide +kernel, by decide +kernel⟩, zB_t 474 (by decide +kernel) rfl, zB_t 475 (by decide +kernel) rfl⟩
set_option maxRecDepth 20000 in
theorem yyX5_yeses : zYv yX5_yeses cX5_yeses 3 (some (.int)) 2 := ⟨⟨zB_t 481 (by decide +kernel) rfl, zB_t 1 (by decide +kernel) rfl, by decide +kernel, by decide +kernel, by decide +kernel⟩, zB_t 479 (by decide +kernel) rfl, zB_t 480 (by decide +kernel) rfl⟩
set_option maxRecDepth 20000 in
theorem yyX5_pairs : zYv yX5_pairs cX5_pairs 2 (some (.int)) 1 := ⟨⟨zB_t 493 (by decide +kernel) rfl, zB_t 1 (by decide +kernel) rfl, by decide +kernel, by decide +kernel, by decide +kernel⟩, zB_t 491 (by decide +kernel) rfl, zB_t 492 (by decide +kernel) rfl⟩
set_option maxRecDepth 20000 in
theorem yyX5_glad : zYv yX5_glad cX5_glad 3 (some (.int)) 2 := ⟨⟨zB_t 545 (by decide +kernel) rfl, zB_t 1 (by decide +kernel) rfl, by decide +kernel, by decide +kernel, by decide +kernel⟩, zB_t 543 (by decide +kernel) rfl, zB_t 544 (by decide +kernel) rfl⟩
set_option maxRecDepth 20000 in
theorem yyX5_shaded : zYv yX5_shaded cX5_shaded 1 (some (.int)) 0 := ⟨⟨zB_t 553 (by decide +kernel) rfl, zB_t 1 (by decide +kernel) rfl, by decide +kernel, by decide +kernel, by decide +kernel⟩, zB_t 551 (by decide +kernel) rfl, zB_t 552 (by decide +kernel) rfl⟩
set_option maxRecDepth 20000 in
theorem yyX5_bestOrder : zYv yX5_bestOrder cX5_bestOrder 6 (some (.int)) 0 := ⟨⟨zB_t 557 (by decide +kernel) rfl, zB_t 1 (by decide +kernel) rfl, by decide +kernel, by decide +kernel, by decide +kernel⟩, zB_t 555 (by decide +kernel) rfl, zB_t 556 (by decide +kernel) rfl⟩
set_option maxRecDepth 20000 in
theorem yyX5_ranks : zYv yX5_ranks cX5_ranks 2 (some (.int)) 1 := ⟨⟨zB_t 565 (by decide +kernel) rfl, zB_t 1 (by decide +kernel) rfl, by decide +kernel, by decide +kernel, by decide +kernel⟩, zB_t 563 (by decide +kernel) rfl, zB_t 564 (by decide +kernel) rfl⟩
set_option maxRecDepth 20000 in
theorem yyX5_asked : zYv yX5_asked cX5_asked 2 (some (.int)) 1 := ⟨⟨zB_t 574 (by decide +kernel) rfl, zB_t 1 (by decide +kernel) rfl, by decide +kernel, by decide +kernel, by decide +kernel⟩, zB_t 572 (by decide +kernel) rfl, zB_t 573 (by decide +kernel) rfl⟩
set_option maxRecDepth 20000 in
theorem yyX5_firm : zYv yX5_firm cX5_firm 1 (some (.int)) 0 := ⟨⟨zB_t 578 (by decide +kernel) rfl, zB_t 1 (by decide +kernel) rfl, by decide +kernel, by decide +kernel, by decide +kernel⟩, zB_t 576 (by decide +kernel) rfl, zB_t 577 (by decide +kernel) rfl⟩
set_option maxRecDepth 20000 in
theorem yyX5_row : zYv yX5_row cX5_row 2 (some (.int)) 1 := ⟨⟨zB_t 608 (by decide +kernel) rfl, zB_t 1 (by decide +kernel) rfl, by decide +kernel, by decide +kernel, by decide +kernel⟩, zB_t 606 (by decide +kernel) rfl, zB_t 607 (by decide +kernel) rfl⟩
set_option maxRecDepth 20000 in
theorem yyX5_rather : zYv yX5_rather cX5_rather 1 (some (.int)) 0 := ⟨⟨zB_t 612 (by decide +kernel) rfl, zB_t 1 (by decide +kernel) rfl, by decide +kernel, by decide +kernel, by decide +kernel⟩, zB_t 610 (by decide +kernel) rfl, zB_t 611 (by decide +kernel) rfl⟩
set_option maxRecDepth 20000 in
theorem yyX5_truly : zYv yX5_truly cX5_truly 6 (some (.int)) 2 := ⟨⟨zB_t 623 (by decide +kernel) rfl, zB_t 1 (by decide +kernel) rfl, by decide +kernel, by decide +kernel, by decide +kernel⟩, zB_t 621 (by decide +kernel) rfl, zB_t 622 (by decide +kernel) rfl⟩
set_option maxRecDepth 20000 in
theorem yyX5_judge : zYv yX5_judge cX5_judge 6 (some (.int)) 0 := ⟨⟨zB_t 628 (by decide +kernel) rfl, zB_t 1 (by decide +kernel) rfl, by decide +kernel, by decide +kernel, by decide +kernel⟩, zB_t 626 (by decide +kernel) rfl, zB_t 627 (by decide +kernel) rfl⟩
set_option maxRecDepth 20000 in
theorem yyX5_clear : zYv yX5_clear cX5_clear 2 (some (.int)) 0 := ⟨⟨zB_t 632 (by decide +kernel) rfl, zB_t 1 (by decide +kernel) rfl, by decide +kernel, by decide +kernel, by decide +kernel⟩, zB_t 630 (by decide +kernel) rfl, zB_t 631 (by decide +kernel) rfl⟩
set_option maxRecDepth 20000 in
theorem yyX5_lots : zYv yX5_lots cX5_lots 6 (some (.int)) 2 := ⟨⟨zB_t 642 (by decide +kernel) rfl, zB_t 1 (by decide +kernel) rfl, by decide +kernel, by decide +kernel, by decide +kernel⟩, zB_t 640 (by decide +kernel) rfl, zB_t 641 (by decide +kernel) rfl⟩
set_option maxRecDepth 20000 in
theorem yyX5_image : zYv yX5_image cX5_image 1 (some (.int)) 0 := ⟨⟨zB_t 655 (by decide +kernel) rfl, zB_t 1 (by decide +kernel) rfl, by decide +kernel, by decide +kernel, by decide +kernel⟩, zB_t 653 (by decide +kernel) rfl, zB_t 654 (by decide +kernel) rfl⟩
set_option maxRecDepth 20000 in
theorem yyX5_on : zYv yX5_on cX5_on 1 (some (.int)) 0 := ⟨⟨zB_t 659 (by decide +kernel) rfl, zB_t 1 (by decide +kernel) rfl, by decide +kernel, by decide +kernel, by decide +kernel⟩, zB_t 657 (by decide +kernel) rfl, zB_t 658 (by decide +kernel) rfl⟩
set_option maxRecDepth 20000 in
theorem yyX5_count : zYv yX5_count cX5_count 2 (some (.int)) 1 := ⟨⟨zB_t 663 (by decide +kernel) rfl, zB_t 1 (by decide +kernel) rfl, by decide +kernel, by decide +kernel, by decide +kernel⟩, zB_t 661 (by decide +kernel) rfl, zB_t 662 (by decide +kernel) rfl⟩
set_option maxRecDepth 20000 in
theorem yyX5_refuse : zYv yX5_refuse cX5_refuse 2 (some (.int)) 1 := ⟨⟨zB_t 183 (by decide +kernel) rfl, zB_t 1 (by decide +kernel) rfl, by decide +kernel, by decide +kernel, by decide +kernel⟩, zB_t 182 (by decide +kernel) rfl, zB_s 0 (by decide +kernel) rfl⟩
set_option maxRecDepth 20000 in
theorem yyX5_gotWhenAsking : zYv yX5_gotWhenAsking cX5_gotWhenAsking 3 (some (.int)) 2 := ⟨⟨zB_t 569 (by decide +kernel) rfl, zB_t 1 (by decide +kernel) rfl, by decide +kernel, by decide +kernel, by decide +kernel⟩, zB_t 568 (by decide +kernel) rfl, zB_s 15 (by decide +kernel) rfl⟩
set_option maxRecDepth 20000 in
theorem yyX5_holdAsTheRowTells : zYv yX5_holdAsTheRowTells cX5_holdAsTheRowTells 3 (some (.boolean)) 0 := ⟨⟨zB_t 616 (by decide +kernel) rfl, zB_t 1 (by decide +kernel) rfl, by decide +kernel, by decide +kernel, by decide +kernel⟩, zB_t 615 (by decide +kernel) rfl, zB_s 18 (by decide +kernel) rfl⟩
set_option maxRecDepth 20000 in
theorem yyX5_isLaw : zYs yX5_isLaw cX5_isLaw 1 (some (.boolean)) 1 := ⟨⟨zB_t 385 (by decide +kernel) rfl, zB_t 1 (by decide +kernel) rfl, by decide +kernel, by decide +kernel, by decide +kernel⟩, zB_t 384 (by decide +kernel) rfl⟩
set_option maxRecDepth 20000 in
theorem yyX5_sideOf : zYs yX5_sideOf cX5_sideOf 1 (some (.int)) 1 := ⟨⟨zB_t 373 (by decide +kernel) rfl, zB_t 1 (by decide +kernel) rfl, by decide +kernel, by decide +kernel, by decide +kernel⟩, zB_t 372 (by decide +kernel) rfl⟩
set_option maxRecDepth 20000 in
theorem yyX5_bitOf : zYs yX5_bitOf cX5_bitOf 1 (some (.int)) 1 := ⟨⟨zB_t 439 (by decide +kernel) rfl, zB_t 1 (by decide +kernel) rfl, by decide +kernel, by decide +kernel, by decide +kernel⟩, zB_t 438 (by decide +kernel) rfl⟩
set_option maxRecDepth 20000 in
theorem yyX5_otherStart : zYs yX5_otherStart cX5_otherStart 1 (some (.int)) 1 := ⟨⟨zB_t 413 (by decide +kernel) rfl, zB_t 1 (by decide +kernel) rfl, by decide +kernel, by decide +kernel, by decide +kernel⟩, zB_t 412 (by decide +kernel) rfl⟩
set_option maxRecDepth 20000 in
theorem yyX6_in : zYv yX6_in cX6_in 4 (some (.boolean)) 3 := ⟨⟨zB_t 829 (by decide +kernel) rfl, zB_t 7 (by decide +kernel) rfl, by decide +kernel, by decide +kernel, by decide +kernel⟩, zB_t 828 (by decide +kernel) rfl, zB_s 28 (by decide +kernel) rfl⟩
set_option maxRecDepth 20000 in
theorem yyX6_has : zYv yX6_has cX6_has 3 (some (.boolean)) 2 := ⟨⟨zB_t 978 (by decide +kernel) rfl, zB_t 7 (by decide +kernel) rfl, by decide +kernel, by decide +kernel, by decide +kernel⟩, zB_t 977 (by decide +kernel) rfl, zB_s 56 (by decide +kernel) rfl⟩
set_option maxRecDepth 20000 in
theorem yyX6_no : zYv yX6_no cX6_no 2 (some (.int)) 1 := ⟨⟨zB_t 789 (by decide +kernel) rfl, zB_t 7 (by decide +kernel) rfl, by decide +kernel, by decide +kernel, by decide +kernel⟩, zB_t 788 (by decide +kernel) rfl, zB_s 19 (by decide +kernel) rfl⟩
set_option maxRecDepth 20000 in
theorem yyX6_isOf : zYv yX6_isOf cX6_isOf 4 (some (.boolean)) 3 := ⟨⟨zB_t 853 (by decide +kernel) rfl, zB_t 7 (by decide +kernel) rfl, by decide +kernel, by decide +kernel, by decide +kernel⟩, zB_t 852 (by decide +kernel) rfl, zB_s 34 (by decide +kernel) rfl⟩
set_option maxRecDepth 20000 in
theorem yyX6_isPerson : zYv yX6_isPerson cX6_isPerson 2 (some (.boolean)) 1 := ⟨⟨zB_t 877 (by decide +kernel) rfl, zB_t 7 (by decide +kernel) rfl, by decide +kernel, by decide +kernel, by decide +kernel⟩, zB_t 876 (by decide +kernel) rfl, zB_s 39 (by decide +kernel) rfl⟩
set_option maxRecDepth 20000 in
theorem yyX6_areTwo : zYv yX6_areTwo cX6_areTwo 3 (some (.boolean)) 2 := ⟨⟨zB_t 897 (by decide +kernel) rfl, zB_t 7 (by decide +kernel) rfl, by decide +kernel, by decide +kernel, by decide +kernel⟩, zB_t 896 (by decide +kernel) rfl, zB_s 43 (by decide +kernel) rfl⟩
set_option maxRecDepth 20000 in
theorem yyX6_likingOf : zYv yX6_likingOf cX6_likingOf 3 (some (.int)) 2 := ⟨⟨zB_t 901 (by decide +kernel) rfl, zB_t 7 (by decide +kernel) rfl, by decide +kernel, by decide +kernel, by decide +kernel⟩, zB_t 900 (by decide +kernel) rfl, zB_s 44 (by decide +kernel) rfl⟩
set_option maxRecDepth 20000 in
theorem yyX6_others : zYv yX6_others cX6_others 2 (some (.int)) 1 := ⟨⟨zB_t 950 (by decide +kernel) rfl, zB_t 7 (by decide +kernel) rfl, by decide +kernel, by decide +kernel, by decide +kernel⟩, zB_t 949 (by decide +kernel) rfl, zB_s 50 (by decide +kernel) rfl⟩
set_option maxRecDepth 20000 in
theorem yyX6_otherOf : zYv yX6_otherOf cX6_otherOf 3 (some (.int)) 2 := ⟨⟨zB_t 869 (by decide +kernel) rfl, zB_t 7 (by decide +kernel) rfl, by decide +kernel, by decide +kernel, by decide +kernel⟩, zB_t 868 (by decide +kernel) rfl, zB_s 38 (by decide +kernel) rfl⟩
set_option maxRecDepth 20000 in
theorem yyX6_letter : zYv yX6_letter cX6_letter 2 (some (.int)) 1 := ⟨⟨zB_t 785 (by decide +kernel) rfl, zB_t 7 (by decide +kernel) rfl, by decide +kernel, by decide +kernel, by decide +kernel⟩, zB_t 783 (by decide +kernel) rfl, zB_t 784 (by decide +kernel) rfl⟩
set_option maxRecDepth 20000 in
theorem yyX6_next : zYv yX6_next cX6_next 1 (some (.int)) 0 := ⟨⟨zB_t 805 (by decide +kernel) rfl, zB_t 7 (by decide +kernel) rfl, by decide +kernel, by decide +kernel, by decide +kernel⟩, zB_t 804 (by decide +kernel) rfl, zB_s 22 (by decide +kernel) rfl⟩
set_option maxRecDepth 20000 in
theorem yyX6_takes : zYv yX6_takes cX6_takes 2 (some (.boolean)) 1 := ⟨⟨zB_t 841 (by decide +kernel) rfl, zB_t 7 (by decide +kernel) rfl, by decide +kernel, by decide +kernel, by decide +kernel⟩, zB_t 840 (by decide +kernel) rfl, zB_s 31 (by decide +kernel) rfl⟩
set_option maxRecDepth 20000 in
theorem yyX6_digit : zYv yX6_digit cX6_digit 1 (some (.int)) 0 := ⟨⟨zB_t 825 (by decide +kernel) rfl, zB_t 7 (by decide +kernel) rfl, by decide +kernel, by decide +kernel, by decide +kernel⟩, zB_t 824 (by decide +kernel) rfl, zB_s 27 (by decide +kernel) rfl⟩
set_option maxRecDepth 20000 in
theorem yyX6_kindOf : zYv yX6_kindOf cX6_kindOf 2 (some (.int)) 1 := ⟨⟨zB_t 817 (by decide +kernel) rfl, zB_t 7 (by decide +kernel) rfl, by decide +kernel, by decide +kernel, by decide +kernel⟩, zB_t 816 (by decide +kernel) rfl, zB_s 25 (by decide +kernel) rfl⟩
set_option maxRecDepth 20000 in
theorem yyX6_takesKind : zYv yX6_takesKind cX6_takesKind 1 (some (.boolean)) 0 := ⟨⟨zB_t 813 (by decide +kernel) rfl, zB_t 7 (by decide +kernel) rfl, by decide +kernel, by decide +kernel, by decide +kernel⟩, zB_t 812 (by decide +kernel) rfl, zB_s 24 (by decide +kernel) rfl⟩
set_option maxRecDepth 20000 in
theorem yyX6_takesOne : zYv yX6_takesOne cX6_takesOne 1 (some (.boolean)) 0 := ⟨⟨zB_t 821 (by decide +kernel) rfl, zB_t 7 (by decide +kernel) rfl, by decide +kernel, by decide +kernel, by decide +kernel⟩, zB_t 820 (by decide +kernel) rfl, zB_s 26 (by decide +kernel) rfl⟩
set_option maxRecDepth 20000 in
theorem yyX6_takesTwo : zYv yX6_takesTwo cX6_takesTwo 1 (some (.boolean)) 0 := ⟨⟨zB_t 837 (by decide +kernel) rfl, zB_t 7 (by decide +kernel) rfl, by decide +kernel, by decide +kernel, by decide +kernel⟩, zB_t 836 (by decide +kernel) rfl, zB_s 30 (by decide +kernel) rfl⟩
set_option maxRecDepth 20000 in
theorem yyX6_takesThree : zYv yX6_takesThree cX6_takesThree 1 (some (.boolean)) 0 := ⟨⟨zB_t 833 (by decide +kernel) rfl, zB_t 7 (by decide +kernel) rfl, by decide +kernel, by decide +kernel, by decide +kernel⟩, zB_t 832 (by decide +kernel) rfl, zB_s 29 (by decide +kernel) rfl⟩
set_option maxRecDepth 20000 in
theorem yyX6_takesRest : zYv yX6_takesRest cX6_takesRest 2 (some (.boolean)) 1 := ⟨⟨zB_t 809 (by decide +kernel) rfl, zB_t 7 (by decide +kernel) rfl, by decide +kernel, by decide +kernel, by decide +kernel⟩, zB_t 808 (by decide +kernel) rfl, zB_s 23 (by decide +kernel) rfl⟩
set_option maxRecDepth 20000 in
theorem yyX6_takesStatement : zYv yX6_takesStatement cX6_takesStatement 2 (some (.boolean)) 0 := ⟨⟨zB_t 801 (by decide +kernel) rfl, zB_t 7 (by decide +kernel) rfl, by decide +kernel, by decide +kernel, by decide +kernel⟩, zB_t 800 (by decide +kernel) rfl, zB_s 21 (by decide +kernel) rfl⟩
set_option maxRecDepth 20000 in
theorem yyX6_isText : zYv yX6_isText cX6_isText 2 (some (.boolean)) 0 := ⟨⟨zB_t 797 (by decide +kernel) rfl, zB_t 7 (by decide +kernel) rfl, by decide +kernel, by decide +kernel, by decide +kernel⟩, zB_t 796 (by decide +kernel) rfl, zB_s 20 (by decide +kernel) rfl⟩
set_option maxRecDepth 20000 in
theorem yyX6_isGood : zYv yX6_isGood cX6_isGood 4 (some (.boolean)) 3 := ⟨⟨zB_t 849 (by decide +kernel) rfl, zB_t 7 (by decide +kernel) rfl, by decide +kernel, by decide +kernel, by decide +kernel⟩, zB_t 848 (by decide +kernel) rfl, zB_s 33 (by decide +kernel) rfl⟩
set_option maxRecDepth 20000 in
theorem yyX6_wrongPlace : zYv yX6_wrongPlace cX6_wrongPlace 5 (some (.int)) 0 := ⟨⟨zB_t 845 (by decide +kernel) rfl, zB_t 7 (by decide +kernel) rfl, by decide +kernel, by decide +kernel, by decide +kernel⟩, zB_t 844 (by decide +kernel) rfl, zB_s 32 (by decide +kernel) rfl⟩
set_option maxRecDepth 20000 in
theorem yyX6_newOne : zYv yX6_newOne cX6_newOne 3 none 1 := ⟨⟨zB_t 865 (by decide +kernel) rfl, zB_t 7 (by decide +kernel) rfl, by decide +kernel, by decide +kernel, by decide +kernel⟩, zB_t 864 (by decide +kernel) rfl, zB_s 37 (by decide +kernel) rfl⟩
set_option maxRecDepth 20000 in
theorem yyX6_comes : zYv yX6_comes cX6_comes 2 none 1 := ⟨⟨zB_t 861 (by decide +kernel) rfl, zB_t 7 (by decide +kernel) rfl, by decide +kernel, by decide +kernel, by decide +kernel⟩, zB_t 860 (by decide +kernel) rfl, zB_s 36 (by decide +kernel) rfl⟩
set_option maxRecDepth 20000 in
theorem yyX6_comesAll : zYv yX6_comesAll cX6_comesAll 4 (some (.int)) 0 := ⟨⟨zB_t 857 (by decide +kernel) rfl, zB_t 7 (by decide +kernel) rfl, by decide +kernel, by decide +kernel, by decide +kernel⟩, zB_t 856 (by decide +kernel) rfl, zB_s 35 (by decide +kernel) rfl⟩
set_option maxRecDepth 20000 in
theorem yyX6_evening : zYv yX6_evening cX6_evening 3 (some (.int)) 0 := ⟨⟨zB_t 793 (by decide +kernel) rfl, zB_t 7 (by decide +kernel) rfl, by decide +kernel, by decide +kernel, by decide +kernel⟩, zB_t 791 (by decide +kernel) rfl, zB_t 792 (by decide +kernel) rfl⟩
set_option maxRecDepth 20000 in
theorem yyX6_roundsNow : zYv yX6_roundsNow cX6_roundsNow 1 (some (.int)) 0 := ⟨⟨zB_t 885 (by decide +kernel) rfl, zB_t 7 (by decide +kernel) rfl, by decide +kernel, by decide +kernel, by decide +kernel⟩, zB_t 884 (by decide +kernel) rfl, zB_s 41 (by decide +kernel) rfl⟩
set_option maxRecDepth 20000 in
theorem yyX6_isRound : zYv yX6_isRound cX6_isRound 2 (some (.boolean)) 1 := ⟨⟨zB_t 921 (by decide +kernel) rfl, zB_t 7 (by decide +kernel) rfl, by decide +kernel, by decide +kernel, by decide +kernel⟩, zB_t 920 (by decide +kernel) rfl, zB_s 45 (by decide +kernel) rfl⟩
set_option maxRecDepth 20000 in
theorem yyX6_metBy : zYv yX6_metBy cX6_metBy 5 (some (.int)) 2 := ⟨⟨zB_t 889 (by decide +kernel) rfl, zB_t 7 (by decide +kernel) rfl, by decide +kernel, by decide +kernel, by decide +kernel⟩, zB_t 888 (by decide +kernel) rfl, zB_s 42 (by decide +kernel) rfl⟩
set_option maxRecDepth 20000 in
theorem yyX6_behindOf : zYv yX6_behindOf cX6_behindOf 3 (some (.int)) 2 := ⟨⟨zB_t 938 (by decide +kernel) rfl, zB_t 7 (by decide +kernel) rfl, by decide +kernel, by decide +kernel, by decide +kernel⟩, zB_t 937 (by decide +kernel) rfl, zB_s 48 (by decide +kernel) rfl⟩
set_option maxRecDepth 20000 in
theorem yyX6_tired : zYv yX6_tired cX6_tired 4 (some (.int)) 3 := ⟨⟨zB_t 934 (by decide +kernel) rfl, zB_t 7 (by decide +kernel) rfl, by decide +kernel, by decide +kernel, by decide +kernel⟩, zB_t 933 (by decide +kernel) rfl, zB_s 47 (by decide +kernel) rfl⟩
set_option maxRecDepth 20000 in
theorem yyX6_feels : zYv yX6_feels cX6_feels 6 (some (.int)) 3 := ⟨⟨zB_t 930 (by decide +kernel) rfl, zB_t 7 (by decide +kernel) rfl, by decide +kernel, by decide +kernel, by decide +kernel⟩, zB_t 929 (by decide +kernel) rfl, zB_s 46 (by decide +kernel) rfl⟩
set_option maxRecDepth 20000 in
theorem yyX6_saysYes : zYv yX6_saysYes cX6_saysYes 4 (some (.boolean)) 2 := ⟨⟨zB_t 954 (by decide +kernel) rfl, zB_t 7 (by decide +kernel) rfl, by decide +kernel, by decide +kernel, by decide +kernel⟩, zB_t 953 (by decide +kernel) rfl, zB_s 51 (by decide +kernel) rfl⟩
set_option maxRecDepth 20000 in
theorem yyX6_yesesOf : zYv yX6_yesesOf cX6_yesesOf 4 (some (.int)) 1 := ⟨⟨zB_t 946 (by decide +kernel) rfl, zB_t 7 (by decide +kernel) rfl, by decide +kernel, by decide +kernel, by decide +kernel⟩, zB_t 945 (by decide +kernel) rfl, zB_s 49 (by decide +kernel) rfl⟩
set_option maxRecDepth 20000 in
theorem yyX6_yesesTo : zYv yX6_yesesTo cX6_yesesTo 4 (some (.int)) 1 := ⟨⟨zB_t 958 (by decide +kernel) rfl, zB_t 7 (by decide +kernel) rfl, by decide +kernel, by decide +kernel, by decide +kernel⟩, zB_t 957 (by decide +kernel) rfl, zB_s 52 (by decide +kernel) rfl⟩
set_option maxRecDepth 20000 in
theorem yyX6_gapsOf : zYv yX6_gapsOf cX6_gapsOf 4 (some (.int)) 1 := ⟨⟨zB_t 881 (by decide +kernel) rfl, zB_t 7 (by decide +kernel) rfl, by decide +kernel, by decide +kernel, by decide +kernel⟩, zB_t 880 (by decide +kernel) rfl, zB_s 40 (by decide +kernel) rfl⟩
set_option maxRecDepth 20000 in
theorem yyX6_person : zYv yX6_person cX6_person 3 (some (.int)) 2 := ⟨⟨zB_t 873 (by decide +kernel) rfl, zB_t 7 (by decide +kernel) rfl, by decide +kernel, by decide +kernel, by decide +kernel⟩, zB_t 871 (by decide +kernel) rfl, zB_t 872 (by decide +kernel) rfl⟩
set_option maxRecDepth 20000 in
theorem yyX6_liking : zYv yX6_liking cX6_liking 3 (some (.int)) 2 := ⟨⟨zB_t 893 (by decide +kernel) rfl, zB_t 7 (by decide +kernel) rfl, by decide +kernel, by decide +kernel, by decide +kernel⟩, zB_t 891 (by decide +kernel) rfl, zB_t 892 (by decide +kernel) rfl⟩
set_option maxRecDepth 20000 in
theorem yyX6_like : zYv yX6_like cX6_like 5 (some (.int)) 3 := ⟨⟨zB_t 905 (by decide +kernel) rfl, zB_t 7 (by decide +kernel) rfl, by decide +kernel, by decide +kernel, by decide +kernel⟩, zB_t 903 (by decide +kernel) rfl, zB_t 904 (by decide +kernel) rfl⟩
set_option maxRecDepth 20000 in
theorem yyX6_order : zYv yX6_order cX6_order 4 (some (.int)) 2 := ⟨⟨zB_t 909 (by decide +kernel) rfl, zB_t 7 (by decide +kernel) rfl, by decide +kernel, by decide +kernel, by decide +kernel⟩, zB_t 907 (by decide +kernel) rfl, zB_t 908 (by decide +kernel) rfl⟩
set_option maxRecDepth 20000 in
theorem yyX6_law : zYv yX6_law cX6_law 3 (some (.int)) 1 := ⟨⟨zB_t 913 (by decide +kernel) rfl, zB_t 7 (by decide +kernel) rfl, by decide +kernel, by decide +kernel, by decide +kernel⟩, zB_t 911 (by decide +kernel) rfl, zB_t 912 (by decide +kernel) rfl⟩
set_option maxRecDepth 20000 in
theorem yyX6_meets : zYv yX6_meets cX6_meets 3 (some (.int)) 2 := ⟨⟨zB_t 917 (by decide +kernel) rfl, zB_t 7 (by decide +kernel) rfl, by decide +kernel, by decide +kernel, by decide +kernel⟩, zB_t 915 (by decide +kernel) rfl, zB_t 916 (by decide +kernel) rfl⟩
set_option maxRecDepth 20000 in
theorem yyX6_felt : zYv yX6_felt cX6_felt 4 (some (.int)) 2 := ⟨⟨zB_t 925 (by decide +kernel) rfl, zB_t 7 (by decide +kernel) rfl, by decide +kernel, by decide +kernel, by decide +kernel⟩, zB_t 923 (by decide +kernel) rfl, zB_t 924 (by decide +kernel) rfl⟩
set_option maxRecDepth 20000 in
theorem yyX6_yeses : zYv yX6_yeses cX6_yeses 3 (some (.int)) 2 := ⟨⟨zB_t 942 (by decide +kernel) rfl, zB_t 7 (by decide +kernel) rfl, by decide +kernel, by decide +kernel, by decide +kernel⟩, zB_t 940 (by decide +kernel) rfl, zB_t 941 (by decide +kernel) rfl⟩
set_option maxRecDepth 20000 in
theorem yyX6_dearest : zYv yX6_dearest cX6_dearest 5 (some (.int)) 2 := ⟨⟨zB_t 974 (by decide +kernel) rfl, zB_t 7 (by decide +kernel) rfl, by decide +kernel, by decide +kernel, by decide +kernel⟩, zB_t 973 (by decide +kernel) rfl, zB_s 55 (by decide +kernel) rfl⟩
set_option maxRecDepth 20000 in
theorem yyX6_isRather : zYv yX6_isRather cX6_isRather 4 (some (.boolean)) 3 := ⟨⟨zB_t 982 (by decide +kernel) rfl, zB_t 7 (by decide +kernel) rfl, by decide +kernel, by decide +kernel, by decide +kernel⟩, zB_t 981 (by decide +kernel) rfl, zB_s 57 (by decide +kernel) rfl⟩
set_option maxRecDepth 20000 in
theorem yyX6_nextAsker : zYv yX6_nextAsker cX6_nextAsker 7 (some (.int)) 3 := ⟨⟨zB_t 970 (by decide +kernel) rfl, zB_t 7 (by decide +kernel) rfl, by decide +kernel, by decide +kernel, by decide +kernel⟩, zB_t 969 (by decide +kernel) rfl, zB_s 54 (by decide +kernel) rfl⟩
set_option maxRecDepth 20000 in
theorem yyX6_layRanks : zYv yX6_layRanks cX6_layRanks 6 none 1 := ⟨⟨zB_t 966 (by decide +kernel) rfl, zB_t 7 (by decide +kernel) rfl, by decide +kernel, by decide +kernel, by decide +kernel⟩, zB_t 965 (by decide +kernel) rfl, zB_s 53 (by decide +kernel) rfl⟩
set_option maxRecDepth 20000 in
theorem yyX6_ranks : zYv yX6_ranks cX6_ranks 2 (some (.int)) 1 := ⟨⟨zB_t 962 (by decide +kernel) rfl, zB_t 7 (by decide +kernel) rfl, by decide +kernel, by decide +kernel, by decide +kernel⟩, zB_t 960 (by decide +kernel) rfl, zB_t 961 (by decide +kernel) rfl⟩
set_option maxRecDepth 20000 in
theorem yyX6_asked : zYv yX6_asked cX6_asked 2 (some (.int)) 1 := ⟨⟨zB_t 986 (by decide +kernel) rfl, zB_t 7 (by decide +kernel) rfl, by decide +kernel, by decide +kernel, by decide +kernel⟩, zB_t 984 (by decide +kernel) rfl, zB_t 985 (by decide +kernel) rfl⟩
set_option maxRecDepth 20000 in
theorem yyX6_layCounts : zYv yX6_layCounts cX6_layCounts 7 none 1 := ⟨⟨zB_t 994 (by decide +kernel) rfl, zB_t 7 (by decide +kernel) rfl, by decide +kernel, by decide +kernel, by decide +kernel⟩, zB_t 993 (by decide +kernel) rfl, zB_s 58 (by decide +kernel) rfl⟩
set_option maxRecDepth 20000 in
theorem yyX6_pairsOf : zYv yX6_pairsOf cX6_pairsOf 4 (some (.int)) 1 := ⟨⟨zB_t 1002 (by decide +kernel) rfl, zB_t 7 (by decide +kernel) rfl, by decide +kernel, by decide +kernel, by decide +kernel⟩, zB_t 1001 (by decide +kernel) rfl, zB_s 60 (by decide +kernel) rfl⟩
set_option maxRecDepth 20000 in
theorem yyX6_allPairs : zYv yX6_allPairs cX6_allPairs 5 (some (.int)) 1 := ⟨⟨zB_t 998 (by decide +kernel) rfl, zB_t 7 (by decide +kernel) rfl, by decide +kernel, by decide +kernel, by decide +kernel⟩, zB_t 997 (by decide +kernel) rfl, zB_s 59 (by decide +kernel) rfl⟩
set_option maxRecDepth 20000 in
theorem yyX6_pairs : zYv yX6_pairs cX6_pairs 2 (some (.int)) 1 := ⟨⟨zB_t 990 (by decide +kernel) rfl, zB_t 7 (by decide +kernel) rfl, by decide +kernel, by decide +kernel, by decide +kernel⟩, zB_t 988 (by decide +kernel) rfl, zB_t 989 (by decide +kernel) rfl⟩
set_option maxRecDepth 20000 in
theorem yyX6_glad : zYv yX6_glad cX6_glad 3 (some (.int)) 2 := ⟨⟨zB_t 1006 (by decide +kernel) rfl, zB_t 7 (by decide +kernel) rfl, by decide +kernel, by decide +kernel, by decide +kernel⟩, zB_t 1004 (by decide +kernel) rfl, zB_t 1005 (by decide +kernel) rfl⟩
set_option maxRecDepth 20000 in
theorem yyX6_shadedNow : zYv yX6_shadedNow cX6_shadedNow 5 (some (.int)) 0 := ⟨⟨zB_t 1014 (by decide +kernel) rfl, zB_t 7 (by decide +kernel) rfl, by decide +kernel, by decide +kernel, by decide +kernel⟩, zB_t 1013 (by decide +kernel) rfl, zB_s 61 (by decide +kernel) rfl⟩
set_option maxRecDepth 20000 in
theorem yyX6_shaded : zYv yX6_shaded cX6_shaded 1 (some (.int)) 0 := ⟨⟨zB_t 1010 (by decide +kernel) rfl, zB_t 7 (by decide +kernel) rfl, by decide +kernel, by decide +kernel, by decide +kernel⟩, zB_t 1008 (by decide +kernel) rfl, zB_t 1009 (by decide +kernel) rfl⟩
set_option maxRecDepth 20000 in
theorem yyX6_meetAll : zYv yX6_meetAll cX6_meetAll 4 (some (.boolean)) 0 := ⟨⟨zB_t 1022 (by decide +kernel) rfl, zB_t 7 (by decide +kernel) rfl, by decide +kernel, by decide +kernel, by decide +kernel⟩, zB_t 1021 (by decide +kernel) rfl, zB_s 62 (by decide +kernel) rfl⟩
set_option maxRecDepth 20000 in
theorem yyX6_bestOrder : zYv yX6_bestOrder cX6_bestOrder 8 (some (.int)) 0 := ⟨⟨zB_t 1018 (by decide +kernel) rfl, zB_t 7 (by decide +kernel) rfl, by decide +kernel, by decide +kernel, by decide +kernel⟩, zB_t 1016 (by decide +kernel) rfl, zB_t 1017 (by decide +kernel) rfl⟩
set_option maxRecDepth 20000 in
theorem yyX6_wouldRather : zYv yX6_wouldRather cX6_wouldRather 4 (some (.boolean)) 2 := ⟨⟨zB_t 1038 (by decide +kernel) rfl, zB_t 7 (by decide +kernel) rfl, by decide +kernel, by decide +kernel, by decide +kernel⟩, zB_t 1037 (by decide +kernel) rfl, zB_s 65 (by decide +kernel) rfl⟩
set_option maxRecDepth 20000 in
theorem yyX6_firstRather : zYv yX6_firstRather cX6_firstRather 3 (some (.int)) 0 := ⟨⟨zB_t 1034 (by decide +kernel) rfl, zB_t 7 (by decide +kernel) rfl, by decide +kernel, by decide +kernel, by decide +kernel⟩, zB_t 1033 (by decide +kernel) rfl, zB_s 64 (by decide +kernel) rfl⟩
set_option maxRecDepth 20000 in
theorem yyX6_layWay : zYv yX6_layWay cX6_layWay 8 (some (.boolean)) 1 := ⟨⟨zB_t 1030 (by decide +kernel) rfl, zB_t 7 (by decide +kernel) rfl, by decide +kernel, by decide +kernel, by decide +kernel⟩, zB_t 1029 (by decide +kernel) rfl, zB_s 63 (by decide +kernel) rfl⟩
set_option maxRecDepth 20000 in
theorem yyX6_firm : zYv yX6_firm cX6_firm 6 (some (.int)) 0 := ⟨⟨zB_t 1026 (by decide +kernel) rfl, zB_t 7 (by decide +kernel) rfl, by decide +kernel, by decide +kernel, by decide +kernel⟩, zB_t 1024 (by decide +kernel) rfl, zB_t 1025 (by decide +kernel) rfl⟩
set_option maxRecDepth 20000 in
theorem yyX6_row : zYv yX6_row cX6_row 2 (some (.int)) 1 := ⟨⟨zB_t 1042 (by decide +kernel) rfl, zB_t 7 (by decide +kernel) rfl, by decide +kernel, by decide +kernel, by decide +kernel⟩, zB_t 1040 (by decide +kernel) rfl, zB_t 1041 (by decide +kernel) rfl⟩
set_option maxRecDepth 20000 in
theorem yyX6_isWay : zYv yX6_isWay cX6_isWay 2 (some (.boolean)) 0 := ⟨⟨zB_t 1050 (by decide +kernel) rfl, zB_t 7 (by decide +kernel) rfl, by decide +kernel, by decide +kernel, by decide +kernel⟩, zB_t 1049 (by decide +kernel) rfl, zB_s 66 (by decide +kernel) rfl⟩
set_option maxRecDepth 20000 in
theorem yyX6_rather : zYv yX6_rather cX6_rather 1 (some (.int)) 0 := ⟨⟨zB_t 1046 (by decide +kernel) rfl, zB_t 7 (by decide +kernel) rfl, by decide +kernel, by decide +kernel, by decide +kernel⟩, zB_t 1044 (by decide +kernel) rfl, zB_t 1045 (by decide +kernel) rfl⟩
set_option maxRecDepth 20000 in
theorem yyX6_truly : zYv yX6_truly cX6_truly 7 (some (.int)) 2 := ⟨⟨zB_t 1054 (by decide +kernel) rfl, zB_t 7 (by decide +kernel) rfl, by decide +kernel, by decide +kernel, by decide +kernel⟩, zB_t 1052 (by decide +kernel) rfl, zB_t 1053 (by decide +kernel) rfl⟩
set_option maxRecDepth 20000 in
theorem yyX6_nth : zYv yX6_nth cX6_nth 2 (some (.int)) 1 := ⟨⟨zB_t 1066 (by decide +kernel) rfl, zB_t 7 (by decide +kernel) rfl, by decide +kernel, by decide +kernel, by decide +kernel⟩, zB_t 1065 (by decide +kernel) rfl, zB_s 68 (by decide +kernel) rfl⟩
set_option maxRecDepth 20000 in
theorem yyX6_judged : zYv yX6_judged cX6_judged 3 (some (.int)) 0 := ⟨⟨zB_t 1062 (by decide +kernel) rfl, zB_t 7 (by decide +kernel) rfl, by decide +kernel, by decide +kernel, by decide +kernel⟩, zB_t 1061 (by decide +kernel) rfl, zB_s 67 (by decide +kernel) rfl⟩
set_option maxRecDepth 20000 in
theorem yyX6_judge : zYv yX6_judge cX6_judge 2 (some (.int)) 0 := ⟨⟨zB_t 1058 (by decide +kernel) rfl, zB_t 7 (by decide +kernel) rfl, by decide +kernel, by decide +kernel, by decide +kernel⟩, zB_t 1056 (by decide +kernel) rfl, zB_t 1057 (by decide +kernel) rfl⟩
set_option maxRecDepth 20000 in
theorem yyX6_clear : zYv yX6_clear cX6_clear 2 (some (.int)) 0 := ⟨⟨zB_t 1070 (by decide +kernel) rfl, zB_t 7 (by decide +kernel) rfl, by decide +kernel, by decide +kernel, by decide +kernel⟩, zB_t 1068 (by decide +kernel) rfl, zB_t 1069 (by decide +kernel) rfl⟩
set_option maxRecDepth 20000 in
theorem yyX6_draw : zYv yX6_draw cX6_draw 2 (some (.int)) 1 := ⟨⟨zB_t 1078 (by decide +kernel) rfl, zB_t 7 (by decide +kernel) rfl, by decide +kernel, by decide +kernel, by decide +kernel⟩, zB_t 1077 (by decide +kernel) rfl, zB_s 69 (by decide +kernel) rfl⟩
set_option maxRecDepth 20000 in
theorem yyX6_lots : zYv yX6_lots cX6_lots 7 (some (.int)) 2 := ⟨⟨zB_t 1074 (by decide +kernel) rfl, zB_t 7 (by decide +kernel) rfl, by decide +kernel, by decide +kernel, by decide +kernel⟩, zB_t 1072 (by decide +kernel) rfl, zB_t 1073 (by decide +kernel) rfl⟩
set_option maxRecDepth 20000 in
theorem yyX6_image : zYv yX6_image cX6_image 2 (some (.int)) 0 := ⟨⟨zB_t 1085 (by decide +kernel) rfl, zB_t 7 (by decide +kernel) rfl, by decide +kernel, by decide +kernel, by decide +kernel⟩, zB_t 1083 (by decide +kernel) rfl, zB_t 1084 (by decide +kernel) rfl⟩
set_option maxRecDepth 20000 in
theorem yyX6_on : zYv yX6_on cX6_on 2 (some (.int)) 0 := ⟨⟨zB_t 1089 (by decide +kernel) rfl, zB_t 7 (by decide +kernel) rfl, by decide +kernel, by decide +kernel, by decide +kernel⟩, zB_t 1087 (by decide +kernel) rfl, zB_t 1088 (by decide +kernel) rfl⟩
set_option maxRecDepth 20000 in
theorem yyX6_allGaps : zYv yX6_allGaps cX6_allGaps 3 (some (.int)) 0 := ⟨⟨zB_t 1097 (by decide +kernel) rfl, zB_t 7 (by decide +kernel) rfl, by decide +kernel, by decide +kernel, by decide +kernel⟩, zB_t 1096 (by decide +kernel) rfl, zB_s 70 (by decide +kernel) rfl⟩
set_option maxRecDepth 20000 in
theorem yyX6_count : zYv yX6_count cX6_count 2 (some (.int)) 1 := ⟨⟨zB_t 1093 (by decide +kernel) rfl, zB_t 7 (by decide +kernel) rfl, by decide +kernel, by decide +kernel, by decide +kernel⟩, zB_t 1091 (by decide +kernel) rfl, zB_t 1092 (by decide +kernel) rfl⟩
set_option maxRecDepth 20000 in
theorem yyJ11_isValidCodePoint_9a6ad : zYs yJ11_isValidCodePoint_9a6ad cJ11_isValidCodePoint_9a6ad 2 (some (.boolean)) 1 := ⟨⟨zB_t 315 (by decide +kernel) rfl, zB_t 13 (by decide +kernel) rfl, by decide +kernel, by decide +kernel, by decide +kernel⟩, zB_t 314 (by decide +kernel) rfl⟩
set_option maxRecDepth 20000 in
theorem yyJ11_highSurrogate_5068e : zYs yJ11_highSurrogate_5068e cJ11_highSurrogate_5068e 1 (some (.char)) 1 := ⟨⟨zB_t 318 (by decide +kernel) rfl, zB_t 13 (by decide +kernel) rfl, by decide +kernel, by decide +kernel, by decide +kernel⟩, zB_t 317 (by decide +kernel) rfl⟩
set_option maxRecDepth 20000 in
theorem yyJ11_lowSurrogate_5068e : zYs yJ11_lowSurrogate_5068e cJ11_lowSurrogate_5068e 1 (some (.char)) 1 := ⟨⟨zB_t 322 (by decide +kernel) rfl, zB_t 13 (by decide +kernel) rfl, by decide +kernel, by decide +kernel, by decide +kernel⟩, zB_t 321 (by decide +kernel) rfl⟩
set_option maxRecDepth 20000 in
theorem yyJ6_bitCount_0f7a4 : zYs yJ6_bitCount_0f7a4 cJ6_bitCount_0f7a4 1 (some (.int)) 1 := ⟨⟨zB_t 538 (by decide +kernel) rfl, zB_t 15 (by decide +kernel) rfl, by decide +kernel, by decide +kernel, by decide +kernel⟩, zB_t 537 (by decide +kernel) rfl⟩
set_option maxRecDepth 20000 in
theorem yyJ9_floorMod_7cf53 : zYs yJ9_floorMod_7cf53 cJ9_floorMod_7cf53 3 (some (.int)) 2 := ⟨⟨zB_t 416 (by decide +kernel) rfl, zB_t 12 (by decide +kernel) rfl, by decide +kernel, by decide +kernel, by decide +kernel⟩, zB_t 415 (by decide +kernel) rfl⟩
set_option maxRecDepth 20000 in
theorem yyJ9_max_7cf53 : zYs yJ9_max_7cf53 cJ9_max_7cf53 2 (some (.int)) 2 := ⟨⟨zB_t 282 (by decide +kernel) rfl, zB_t 12 (by decide +kernel) rfl, by decide +kernel, by decide +kernel, by decide +kernel⟩, zB_t 281 (by decide +kernel) rfl⟩
set_option maxRecDepth 20000 in
theorem yyJ9_min_7cf53 : zYs yJ9_min_7cf53 cJ9_min_7cf53 2 (some (.int)) 2 := ⟨⟨zB_t 285 (by decide +kernel) rfl, zB_t 12 (by decide +kernel) rfl, by decide +kernel, by decide +kernel, by decide +kernel⟩, zB_t 284 (by decide +kernel) rfl⟩
set_option maxRecDepth 20000 in
theorem yyJ0_length_8abf5 : zYv yJ0_length_8abf5 cJ0_length_8abf5 1 (some (.int)) 0 := ⟨⟨zB_t 216 (by decide +kernel) rfl, zB_t 8 (by decide +kernel) rfl, by decide +kernel, by decide +kernel, by decide +kernel⟩, zB_t 214 (by decide +kernel) rfl, zB_t 215 (by decide +kernel) rfl⟩
set_option maxRecDepth 20000 in
theorem yyJ0_isEmpty_aae02 : zYv yJ0_isEmpty_aae02 cJ0_isEmpty_aae02 1 (some (.boolean)) 0 := ⟨⟨zB_t 212 (by decide +kernel) rfl, zB_t 8 (by decide +kernel) rfl, by decide +kernel, by decide +kernel, by decide +kernel⟩, zB_t 210 (by decide +kernel) rfl, zB_t 211 (by decide +kernel) rfl⟩
set_option maxRecDepth 20000 in
theorem yyJ0_charAt_5068e : zYv yJ0_charAt_5068e cJ0_charAt_5068e 2 (some (.char)) 1 := ⟨⟨zB_t 226 (by decide +kernel) rfl, zB_t 8 (by decide +kernel) rfl, by decide +kernel, by decide +kernel, by decide +kernel⟩, zB_t 224 (by decide +kernel) rfl, zB_t 225 (by decide +kernel) rfl⟩
set_option maxRecDepth 20000 in
theorem yyJ0_indexOf_0f7a4 : zYv yJ0_indexOf_0f7a4 cJ0_indexOf_0f7a4 2 (some (.int)) 1 := ⟨⟨zB_t 268 (by decide +kernel) rfl, zB_t 8 (by decide +kernel) rfl, by decide +kernel, by decide +kernel, by decide +kernel⟩, zB_t 266 (by decide +kernel) rfl, zB_t 267 (by decide +kernel) rfl⟩
set_option maxRecDepth 20000 in
theorem yyJ0_indexOf_7cf53 : zYv yJ0_indexOf_7cf53 cJ0_indexOf_7cf53 3 (some (.int)) 2 := ⟨⟨zB_t 272 (by decide +kernel) rfl, zB_t 8 (by decide +kernel) rfl, by decide +kernel, by decide +kernel, by decide +kernel⟩, zB_t 270 (by decide +kernel) rfl, zB_t 271 (by decide +kernel) rfl⟩
set_option maxRecDepth 20000 in
theorem yyJ0_coder_7d493 : zYv yJ0_coder_7d493 cJ0_coder_7d493 1 (some (.byte)) 0 := ⟨⟨zB_t 220 (by decide +kernel) rfl, zB_t 8 (by decide +kernel) rfl, by decide +kernel, by decide +kernel, by decide +kernel⟩, zB_t 218 (by decide +kernel) rfl, zB_t 219 (by decide +kernel) rfl⟩
set_option maxRecDepth 20000 in
theorem yyJ0_isLatin1_aae02 : zYv yJ0_isLatin1_aae02 cJ0_isLatin1_aae02 1 (some (.boolean)) 0 := ⟨⟨zB_t 230 (by decide +kernel) rfl, zB_t 8 (by decide +kernel) rfl, by decide +kernel, by decide +kernel, by decide +kernel⟩, zB_t 228 (by decide +kernel) rfl, zB_t 229 (by decide +kernel) rfl⟩
set_option maxRecDepth 20000 in
theorem yyJ0_checkIndex_df160 : zYs yJ0_checkIndex_df160 cJ0_checkIndex_df160 2 none 2 := ⟨⟨zB_t 236 (by decide +kernel) rfl, zB_t 8 (by decide +kernel) rfl, by decide +kernel, by decide +kernel, by decide +kernel⟩, zB_t 235 (by decide +kernel) rfl⟩
set_option maxRecDepth 20000 in
theorem yyJ0_checkBoundsBeginEnd_23922 : zYs yJ0_checkBoundsBeginEnd_23922 cJ0_checkBoundsBeginEnd_23922 3 none 3 := ⟨⟨zB_t 303 (by decide +kernel) rfl, zB_t 8 (by decide +kernel) rfl, by decide +kernel, by decide +kernel, by decide +kernel⟩, zB_t 302 (by decide +kernel) rfl⟩
set_option maxRecDepth 20000 in
theorem yyJ1_charAt_3b067 : zYs yJ1_charAt_3b067 cJ1_charAt_3b067 2 (some (.char)) 2 := ⟨⟨zB_t 233 (by decide +kernel) rfl, zB_t 9 (by decide +kernel) rfl, by decide +kernel, by decide +kernel, by decide +kernel⟩, zB_t 232 (by decide +kernel) rfl⟩
set_option maxRecDepth 20000 in
theorem yyJ1_canEncode_9a6ad : zYs yJ1_canEncode_9a6ad cJ1_canEncode_9a6ad 1 (some (.boolean)) 1 := ⟨⟨zB_t 279 (by decide +kernel) rfl, zB_t 9 (by decide +kernel) rfl, by decide +kernel, by decide +kernel, by decide +kernel⟩, zB_t 278 (by decide +kernel) rfl⟩
set_option maxRecDepth 20000 in
theorem yyJ1_indexOf_4cfef : zYs yJ1_indexOf_4cfef cJ1_indexOf_4cfef 4 (some (.int)) 4 := ⟨⟨zB_t 276 (by decide +kernel) rfl, zB_t 9 (by decide +kernel) rfl, by decide +kernel, by decide +kernel, by decide +kernel⟩, zB_t 275 (by decide +kernel) rfl⟩
set_option maxRecDepth 20000 in
theorem yyJ1_indexOfChar_4cfef : zYs yJ1_indexOfChar_4cfef cJ1_indexOfChar_4cfef 6 (some (.int)) 4 := ⟨⟨zB_t 288 (by decide +kernel) rfl, zB_t 9 (by decide +kernel) rfl, by decide +kernel, by decide +kernel, by decide +kernel⟩, zB_t 287 (by decide +kernel) rfl⟩
set_option maxRecDepth 20000 in
theorem yyJ2_getChar_3b067 : zYs yJ2_getChar_3b067 cJ2_getChar_3b067 2 (some (.char)) 2 := ⟨⟨zB_t 254 (by decide +kernel) rfl, zB_t 11 (by decide +kernel) rfl, by decide +kernel, by decide +kernel, by decide +kernel⟩, zB_t 253 (by decide +kernel) rfl⟩
set_option maxRecDepth 20000 in
theorem yyJ2_length_9d52b : zYs yJ2_length_9d52b cJ2_length_9d52b 1 (some (.int)) 1 := ⟨⟨zB_t 250 (by decide +kernel) rfl, zB_t 11 (by decide +kernel) rfl, by decide +kernel, by decide +kernel, by decide +kernel⟩, zB_t 249 (by decide +kernel) rfl⟩
set_option maxRecDepth 20000 in
theorem yyJ2_indexOf_4cfef : zYs yJ2_indexOf_4cfef cJ2_indexOf_4cfef 4 (some (.int)) 4 := ⟨⟨zB_t 291 (by decide +kernel) rfl, zB_t 11 (by decide +kernel) rfl, by decide +kernel, by decide +kernel, by decide +kernel⟩, zB_t 290 (by decide +kernel) rfl⟩
set_option maxRecDepth 20000 in
theorem yyJ2_indexOfChar_4cfef : zYs yJ2_indexOfChar_4cfef cJ2_indexOfChar_4cfef 4 (some (.int)) 4 := ⟨⟨zB_t 297 (by decide +kernel) rfl, zB_t 11 (by decide +kernel) rfl, by decide +kernel, by decide +kernel, by decide +kernel⟩, zB_t 296 (by decide +kernel) rfl⟩
set_option maxRecDepth 20000 in
theorem yyJ2_indexOfCharUnsafe_4cfef : zYs yJ2_indexOfCharUnsafe_4cfef cJ2_indexOfCharUnsafe_4cfef 5 (some (.int)) 4 := ⟨⟨zB_t 309 (by decide +kernel) rfl, zB_t 11 (by decide +kernel) rfl, by decide +kernel, by decide +kernel, by decide +kernel⟩, zB_t 308 (by decide +kernel) rfl⟩
set_option maxRecDepth 20000 in
theorem yyJ2_indexOfSupplementary_4cfef : zYs yJ2_indexOfSupplementary_4cfef cJ2_indexOfSupplementary_4cfef 7 (some (.int)) 4 := ⟨⟨zB_t 312 (by decide +kernel) rfl, zB_t 11 (by decide +kernel) rfl, by decide +kernel, by decide +kernel, by decide +kernel⟩, zB_t 311 (by decide +kernel) rfl⟩
set_option maxRecDepth 20000 in
theorem yyJ2_charAt_3b067 : zYs yJ2_charAt_3b067 cJ2_charAt_3b067 2 (some (.char)) 2 := ⟨⟨zB_t 244 (by decide +kernel) rfl, zB_t 11 (by decide +kernel) rfl, by decide +kernel, by decide +kernel, by decide +kernel⟩, zB_t 243 (by decide +kernel) rfl⟩
set_option maxRecDepth 20000 in
theorem yyJ2_checkIndex_2214a : zYs yJ2_checkIndex_2214a cJ2_checkIndex_2214a 2 none 2 := ⟨⟨zB_t 247 (by decide +kernel) rfl, zB_t 11 (by decide +kernel) rfl, by decide +kernel, by decide +kernel, by decide +kernel⟩, zB_t 246 (by decide +kernel) rfl⟩
set_option maxRecDepth 20000 in
theorem yyJ2_checkBoundsBeginEnd_d044e : zYs yJ2_checkBoundsBeginEnd_d044e cJ2_checkBoundsBeginEnd_d044e 3 none 3 := ⟨⟨zB_t 300 (by decide +kernel) rfl, zB_t 11 (by decide +kernel) rfl, by decide +kernel, by decide +kernel, by decide +kernel⟩, zB_t 299 (by decide +kernel) rfl⟩
set_option maxRecDepth 20000 in
theorem yyJ3_checkIndex_8e157 : zYs yJ3_checkIndex_8e157 cJ3_checkIndex_8e157 3 (some (.int)) 3 := ⟨⟨zB_t 241 (by decide +kernel) rfl, zB_t 10 (by decide +kernel) rfl, by decide +kernel, by decide +kernel, by decide +kernel⟩, zB_t 240 (by decide +kernel) rfl⟩
set_option maxRecDepth 20000 in
theorem yyJ3_checkFromToIndex_8c36e : zYs yJ3_checkFromToIndex_8c36e cJ3_checkFromToIndex_8c36e 4 (some (.int)) 4 := ⟨⟨zB_t 306 (by decide +kernel) rfl, zB_t 10 (by decide +kernel) rfl, by decide +kernel, by decide +kernel, by decide +kernel⟩, zB_t 305 (by decide +kernel) rfl⟩
set_option maxRecDepth 20000 in
theorem mlX5_65 : Cond.methodLink RX5 65 yX5_refuse ∈ zBIG := zB_t 180 (by decide +kernel) rfl
set_option maxRecDepth 20000 in
theorem mlX5_69 : Cond.methodLink RX5 69 yX3_isFull ∈ zBIG := zB_t 184 (by decide +kernel) rfl
set_option maxRecDepth 20000 in
theorem mlX5_73 : Cond.methodLink RX5 73 yX3_add ∈ zBIG := zB_t 188 (by decide +kernel) rfl
set_option maxRecDepth 20000 in
theorem mlX5_76 : Cond.methodLink RX5 76 yX3_firstBadLetter ∈ zBIG := zB_t 197 (by decide +kernel) rfl
set_option maxRecDepth 20000 in
theorem mlX5_80 : Cond.methodLink RX5 80 yX3_forget ∈ zBIG := zB_t 324 (by decide +kernel) rfl
set_option maxRecDepth 20000 in
theorem mlX5_83 : Cond.methodLink RX5 83 yX4_become ∈ zBIG := zB_t 328 (by decide +kernel) rfl
set_option maxRecDepth 20000 in
theorem mlX5_87 : Cond.methodLink RX5 87 yX3_carryOut ∈ zBIG := zB_t 335 (by decide +kernel) rfl
set_option maxRecDepth 20000 in
theorem mlX5_91 : Cond.methodLink RX5 91 yX3_statements ∈ zBIG := zB_t 386 (by decide +kernel) rfl
set_option maxRecDepth 20000 in
theorem mlX5_94 : Cond.methodLink RX5 94 yX4_isThere ∈ zBIG := zB_t 395 (by decide +kernel) rfl
set_option maxRecDepth 20000 in
theorem mlX5_104 : Cond.methodLink RX5 104 yX2_hold ∈ zBIG := zB_t 396 (by decide +kernel) rfl
set_option maxRecDepth 20000 in
theorem mlX5_107 : Cond.methodLink RX5 107 yX2_gaps ∈ zBIG := zB_t 440 (by decide +kernel) rfl
set_option maxRecDepth 20000 in
theorem mlX5_110 : Cond.methodLink RX5 110 yX4_areUnlike ∈ zBIG := zB_t 448 (by decide +kernel) rfl
set_option maxRecDepth 20000 in
theorem mlX5_114 : Cond.methodLink RX5 114 yX4_likes ∈ zBIG := zB_t 449 (by decide +kernel) rfl
set_option maxRecDepth 20000 in
theorem mlX5_118 : Cond.methodLink RX5 118 yX4_setLiking ∈ zBIG := zB_t 454 (by decide +kernel) rfl
set_option maxRecDepth 20000 in
theorem mlX5_128 : Cond.methodLink RX5 128 yX5_isLaw ∈ zBIG := zB_t 463 (by decide +kernel) rfl
set_option maxRecDepth 20000 in
theorem mlX5_134 : Cond.methodLink RX5 134 yX4_isRound ∈ zBIG := zB_t 468 (by decide +kernel) rfl
set_option maxRecDepth 20000 in
theorem mlX5_148 : Cond.methodLink RX5 148 yX2_slipsFor ∈ zBIG := zB_t 482 (by decide +kernel) rfl
set_option maxRecDepth 20000 in
theorem mlX5_151 : Cond.methodLink RX5 151 yX1_settle ∈ zBIG := zB_t 494 (by decide +kernel) rfl
set_option maxRecDepth 20000 in
theorem mlX5_155 : Cond.methodLink RX5 155 yX1_howMany ∈ zBIG := zB_t 532 (by decide +kernel) rfl
set_option maxRecDepth 20000 in
theorem mlX5_161 : Cond.methodLink RX5 161 yX1_gladness ∈ zBIG := zB_t 546 (by decide +kernel) rfl
set_option maxRecDepth 20000 in
theorem mlX5_167 : Cond.methodLink RX5 167 yX2_letAllMeetAll ∈ zBIG := zB_t 558 (by decide +kernel) rfl
set_option maxRecDepth 20000 in
theorem mlX5_171 : Cond.methodLink RX5 171 yX5_gotWhenAsking ∈ zBIG := zB_t 566 (by decide +kernel) rfl
set_option maxRecDepth 20000 in
theorem mlX5_174 : Cond.methodLink RX5 174 yX0_firmWays ∈ zBIG := zB_t 579 (by decide +kernel) rfl
set_option maxRecDepth 20000 in
theorem mlX5_177 : Cond.methodLink RX5 177 yX5_holdAsTheRowTells ∈ zBIG := zB_t 613 (by decide +kernel) rfl
set_option maxRecDepth 20000 in
theorem mlX5_180 : Cond.methodLink RX5 180 yX0_firstWhoWouldRather ∈ zBIG := zB_t 619 (by decide +kernel) rfl
set_option maxRecDepth 20000 in
theorem mlX5_183 : Cond.methodLink RX5 183 yX2_saysYes ∈ zBIG := zB_t 624 (by decide +kernel) rfl
set_option maxRecDepth 20000 in
theorem mlX5_186 : Cond.methodLink RX5 186 yX5_clear ∈ zBIG := zB_t 629 (by decide +kernel) rfl
set_option maxRecDepth 20000 in
theorem mlX5_192 : Cond.methodLink RX5 192 yX4_howManyPeople ∈ zBIG := zB_t 633 (by decide +kernel) rfl
set_option maxRecDepth 20000 in
theorem mlX5_195 : Cond.methodLink RX5 195 yJ9_min_7cf53 ∈ zBIG := zB_t 637 (by decide +kernel) rfl
set_option maxRecDepth 20000 in
theorem mlX5_200 : Cond.methodLink RX5 200 yX4_drawLikings ∈ zBIG := zB_t 643 (by decide +kernel) rfl
set_option maxRecDepth 20000 in
theorem mlX5_203 : Cond.methodLink RX5 203 yX4_rounds ∈ zBIG := zB_t 664 (by decide +kernel) rfl
set_option maxRecDepth 20000 in
theorem mlX5_205 : Cond.methodLink RX5 205 yX2_allGaps ∈ zBIG := zB_t 665 (by decide +kernel) rfl
set_option maxRecDepth 20000 in
theorem mlX5_211 : Cond.methodLink RX5 211 yX1_askInTurn ∈ zBIG := zB_t 570 (by decide +kernel) rfl
set_option maxRecDepth 20000 in
theorem mlX5_218 : Cond.methodLink RX5 218 yX0_letAllGo ∈ zBIG := zB_t 617 (by decide +kernel) rfl
set_option maxRecDepth 20000 in
theorem mlX5_221 : Cond.methodLink RX5 221 yX0_give ∈ zBIG := zB_t 618 (by decide +kernel) rfl
set_option maxRecDepth 20000 in
theorem mlX0_20 : Cond.methodLink RX0 20 yX0_giveByCode ∈ zBIG := zB_t 583 (by decide +kernel) rfl
set_option maxRecDepth 20000 in
theorem mlX0_24 : Cond.methodLink RX0 24 yX0_firstWhoWouldRather ∈ zBIG := zB_t 596 (by decide +kernel) rfl
set_option maxRecDepth 20000 in
theorem mlX0_28 : Cond.methodLink RX0 28 yX0_letAllGo ∈ zBIG := zB_t 587 (by decide +kernel) rfl
set_option maxRecDepth 20000 in
theorem mlX0_35 : Cond.methodLink RX0 35 yX0_give ∈ zBIG := zB_t 592 (by decide +kernel) rfl
set_option maxRecDepth 20000 in
theorem mlX0_39 : Cond.methodLink RX0 39 yX0_wouldRather ∈ zBIG := zB_t 600 (by decide +kernel) rfl
set_option maxRecDepth 20000 in
theorem mlX0_42 : Cond.methodLink RX0 42 yX4_likes ∈ zBIG := zB_t 604 (by decide +kernel) rfl
set_option maxRecDepth 20000 in
theorem mlX1_24 : Cond.methodLink RX1 24 yX1_askInTurn ∈ zBIG := zB_t 498 (by decide +kernel) rfl
set_option maxRecDepth 20000 in
theorem mlX1_33 : Cond.methodLink RX1 33 yX1_validYeses ∈ zBIG := zB_t 525 (by decide +kernel) rfl
set_option maxRecDepth 20000 in
theorem mlX1_41 : Cond.methodLink RX1 41 yX1_likedMost ∈ zBIG := zB_t 529 (by decide +kernel) rfl
set_option maxRecDepth 20000 in
theorem mlX1_44 : Cond.methodLink RX1 44 yJ6_bitCount_0f7a4 ∈ zBIG := zB_t 536 (by decide +kernel) rfl
set_option maxRecDepth 20000 in
theorem mlX1_49 : Cond.methodLink RX1 49 yX4_likes ∈ zBIG := zB_t 521 (by decide +kernel) rfl
set_option maxRecDepth 20000 in
theorem mlX1_55 : Cond.methodLink RX1 55 yX1_favourite ∈ zBIG := zB_t 516 (by decide +kernel) rfl
set_option maxRecDepth 20000 in
theorem mlX1_62 : Cond.methodLink RX1 62 yX4_isThere ∈ zBIG := zB_t 502 (by decide +kernel) rfl
set_option maxRecDepth 20000 in
theorem mlX1_69 : Cond.methodLink RX1 69 yX4_howManyFacing ∈ zBIG := zB_t 504 (by decide +kernel) rfl
set_option maxRecDepth 20000 in
theorem mlX1_72 : Cond.methodLink RX1 72 yX1_firstWhoWillAsk ∈ zBIG := zB_t 508 (by decide +kernel) rfl
set_option maxRecDepth 20000 in
theorem mlX1_76 : Cond.methodLink RX1 76 yX1_ask ∈ zBIG := zB_t 512 (by decide +kernel) rfl
set_option maxRecDepth 20000 in
theorem mlX1_79 : Cond.methodLink RX1 79 yX1_isLikedBefore ∈ zBIG := zB_t 522 (by decide +kernel) rfl
set_option maxRecDepth 20000 in
theorem mlX2_30 : Cond.methodLink RX2 30 yX4_rounds ∈ zBIG := zB_t 400 (by decide +kernel) rfl
set_option maxRecDepth 20000 in
theorem mlX2_36 : Cond.methodLink RX2 36 yX4_isThere ∈ zBIG := zB_t 405 (by decide +kernel) rfl
set_option maxRecDepth 20000 in
theorem mlX2_40 : Cond.methodLink RX2 40 yX2_partner ∈ zBIG := zB_t 406 (by decide +kernel) rfl
set_option maxRecDepth 20000 in
theorem mlX2_44 : Cond.methodLink RX2 44 yX2_feelAndSay ∈ zBIG := zB_t 417 (by decide +kernel) rfl
set_option maxRecDepth 20000 in
theorem mlX2_61 : Cond.methodLink RX2 61 yJ9_floorMod_7cf53 ∈ zBIG := zB_t 414 (by decide +kernel) rfl
set_option maxRecDepth 20000 in
theorem mlX2_67 : Cond.methodLink RX2 67 yX2_feeling ∈ zBIG := zB_t 421 (by decide +kernel) rfl
set_option maxRecDepth 20000 in
theorem mlX2_77 : Cond.methodLink RX2 77 yX4_likes ∈ zBIG := zB_t 425 (by decide +kernel) rfl
set_option maxRecDepth 20000 in
theorem mlX2_83 : Cond.methodLink RX2 83 yX2_isInShade ∈ zBIG := zB_t 429 (by decide +kernel) rfl
set_option maxRecDepth 20000 in
theorem mlX2_87 : Cond.methodLink RX2 87 yX2_wasAlone ∈ zBIG := zB_t 433 (by decide +kernel) rfl
set_option maxRecDepth 20000 in
theorem mlX2_91 : Cond.methodLink RX2 91 yX2_gaps ∈ zBIG := zB_t 669 (by decide +kernel) rfl
set_option maxRecDepth 20000 in
theorem mlX2_94 : Cond.methodLink RX2 94 yX2_saysYes ∈ zBIG := zB_t 486 (by decide +kernel) rfl
set_option maxRecDepth 20000 in
theorem mlX3_19 : Cond.methodLink RX3 19 yX3_isFull ∈ zBIG := zB_t 192 (by decide +kernel) rfl
set_option maxRecDepth 20000 in
theorem mlX3_23 : Cond.methodLink RX3 23 yX3_formBehind ∈ zBIG := zB_t 201 (by decide +kernel) rfl
set_option maxRecDepth 20000 in
theorem mlX3_27 : Cond.methodLink RX3 27 yJ0_isEmpty_aae02 ∈ zBIG := zB_t 209 (by decide +kernel) rfl
set_option maxRecDepth 20000 in
theorem mlX3_32 : Cond.methodLink RX3 32 yJ0_length_8abf5 ∈ zBIG := zB_t 213 (by decide +kernel) rfl
set_option maxRecDepth 20000 in
theorem mlX3_35 : Cond.methodLink RX3 35 yJ0_charAt_5068e ∈ zBIG := zB_t 223 (by decide +kernel) rfl
set_option maxRecDepth 20000 in
theorem mlX3_39 : Cond.methodLink RX3 39 yX3_fits ∈ zBIG := zB_t 261 (by decide +kernel) rfl
set_option maxRecDepth 20000 in
theorem mlX3_55 : Cond.methodLink RX3 55 yJ0_indexOf_0f7a4 ∈ zBIG := zB_t 265 (by decide +kernel) rfl
set_option maxRecDepth 20000 in
theorem mlX3_59 : Cond.methodLink RX3 59 yX3_carryOutOne ∈ zBIG := zB_t 339 (by decide +kernel) rfl
set_option maxRecDepth 20000 in
theorem mlX3_63 : Cond.methodLink RX3 63 yX3_kindAt ∈ zBIG := zB_t 343 (by decide +kernel) rfl
set_option maxRecDepth 20000 in
theorem mlX3_66 : Cond.methodLink RX3 66 yX3_digitAt ∈ zBIG := zB_t 347 (by decide +kernel) rfl
set_option maxRecDepth 20000 in
theorem mlX3_69 : Cond.methodLink RX3 69 yX4_addPerson ∈ zBIG := zB_t 351 (by decide +kernel) rfl
set_option maxRecDepth 20000 in
theorem mlX3_75 : Cond.methodLink RX3 75 yX3_setLiking ∈ zBIG := zB_t 359 (by decide +kernel) rfl
set_option maxRecDepth 20000 in
theorem mlX3_78 : Cond.methodLink RX3 78 yX3_setOrder ∈ zBIG := zB_t 375 (by decide +kernel) rfl
set_option maxRecDepth 20000 in
theorem mlX3_81 : Cond.methodLink RX3 81 yX3_setLaw ∈ zBIG := zB_t 379 (by decide +kernel) rfl
set_option maxRecDepth 20000 in
theorem mlX3_84 : Cond.methodLink RX3 84 yX4_areUnlike ∈ zBIG := zB_t 363 (by decide +kernel) rfl
set_option maxRecDepth 20000 in
theorem mlX3_88 : Cond.methodLink RX3 88 yX4_setLiking ∈ zBIG := zB_t 374 (by decide +kernel) rfl
set_option maxRecDepth 20000 in
theorem mlX4_44 : Cond.methodLink RX4 44 yX4_isThere ∈ zBIG := zB_t 367 (by decide +kernel) rfl
set_option maxRecDepth 20000 in
theorem mlX4_48 : Cond.methodLink RX4 48 yJ9_max_7cf53 ∈ zBIG := zB_t 404 (by decide +kernel) rfl
set_option maxRecDepth 20000 in
theorem mlX4_54 : Cond.methodLink RX4 54 yX4_rounds ∈ zBIG := zB_t 472 (by decide +kernel) rfl
set_option maxRecDepth 20000 in
theorem mlX4_58 : Cond.methodLink RX4 58 yX4_setLiking ∈ zBIG := zB_t 355 (by decide +kernel) rfl
set_option maxRecDepth 20000 in
theorem mlX4_62 : Cond.methodLink RX4 62 yX4_howManyFacing ∈ zBIG := zB_t 647 (by decide +kernel) rfl
set_option maxRecDepth 20000 in
theorem mlL_13 : Cond.methodLink RL 13 yX5_letter ∈ zBIG := zB_t 176 (by decide +kernel) rfl
set_option maxRecDepth 20000 in
theorem mlL_17 : Cond.methodLink RL 17 yX6_letter ∈ zBIG := zB_t 782 (by decide +kernel) rfl
set_option maxRecDepth 20000 in
theorem mlL_18 : Cond.methodLink RL 18 yX5_evening ∈ zBIG := zB_t 193 (by decide +kernel) rfl
set_option maxRecDepth 20000 in
theorem mlL_22 : Cond.methodLink RL 22 yX6_evening ∈ zBIG := zB_t 790 (by decide +kernel) rfl
set_option maxRecDepth 20000 in
theorem mlL_23 : Cond.methodLink RL 23 yX5_person ∈ zBIG := zB_t 391 (by decide +kernel) rfl
set_option maxRecDepth 20000 in
theorem mlL_27 : Cond.methodLink RL 27 yX6_person ∈ zBIG := zB_t 870 (by decide +kernel) rfl
set_option maxRecDepth 20000 in
theorem mlL_28 : Cond.methodLink RL 28 yX5_liking ∈ zBIG := zB_t 444 (by decide +kernel) rfl
set_option maxRecDepth 20000 in
theorem mlL_31 : Cond.methodLink RL 31 yX6_liking ∈ zBIG := zB_t 890 (by decide +kernel) rfl
set_option maxRecDepth 20000 in
theorem mlL_32 : Cond.methodLink RL 32 yX5_like ∈ zBIG := zB_t 450 (by decide +kernel) rfl
set_option maxRecDepth 20000 in
theorem mlL_36 : Cond.methodLink RL 36 yX6_like ∈ zBIG := zB_t 902 (by decide +kernel) rfl
set_option maxRecDepth 20000 in
theorem mlL_37 : Cond.methodLink RL 37 yX5_order ∈ zBIG := zB_t 455 (by decide +kernel) rfl
set_option maxRecDepth 20000 in
theorem mlL_40 : Cond.methodLink RL 40 yX6_order ∈ zBIG := zB_t 906 (by decide +kernel) rfl
set_option maxRecDepth 20000 in
theorem mlL_41 : Cond.methodLink RL 41 yX5_law ∈ zBIG := zB_t 459 (by decide +kernel) rfl
set_option maxRecDepth 20000 in
theorem mlL_44 : Cond.methodLink RL 44 yX6_law ∈ zBIG := zB_t 910 (by decide +kernel) rfl
set_option maxRecDepth 20000 in
theorem mlL_45 : Cond.methodLink RL 45 yX5_meets ∈ zBIG := zB_t 464 (by decide +kernel) rfl
set_option maxRecDepth 20000 in
theorem mlL_48 : Cond.methodLink RL 48 yX6_meets ∈ zBIG := zB_t 914 (by decide +kernel) rfl
set_option maxRecDepth 20000 in
theorem mlL_49 : Cond.methodLink RL 49 yX5_felt ∈ zBIG := zB_t 473 (by decide +kernel) rfl
set_option maxRecDepth 20000 in
theorem mlL_52 : Cond.methodLink RL 52 yX6_felt ∈ zBIG := zB_t 922 (by decide +kernel) rfl
set_option maxRecDepth 20000 in
theorem mlL_53 : Cond.methodLink RL 53 yX5_yeses ∈ zBIG := zB_t 478 (by decide +kernel) rfl
set_option maxRecDepth 20000 in
theorem mlL_56 : Cond.methodLink RL 56 yX6_yeses ∈ zBIG := zB_t 939 (by decide +kernel) rfl
set_option maxRecDepth 20000 in
theorem mlL_57 : Cond.methodLink RL 57 yX5_pairs ∈ zBIG := zB_t 490 (by decide +kernel) rfl
set_option maxRecDepth 20000 in
theorem mlL_60 : Cond.methodLink RL 60 yX6_pairs ∈ zBIG := zB_t 987 (by decide +kernel) rfl
set_option maxRecDepth 20000 in
theorem mlL_61 : Cond.methodLink RL 61 yX5_glad ∈ zBIG := zB_t 542 (by decide +kernel) rfl
set_option maxRecDepth 20000 in
theorem mlL_64 : Cond.methodLink RL 64 yX6_glad ∈ zBIG := zB_t 1003 (by decide +kernel) rfl
set_option maxRecDepth 20000 in
theorem mlL_65 : Cond.methodLink RL 65 yX5_shaded ∈ zBIG := zB_t 550 (by decide +kernel) rfl
set_option maxRecDepth 20000 in
theorem mlL_68 : Cond.methodLink RL 68 yX6_shaded ∈ zBIG := zB_t 1007 (by decide +kernel) rfl
set_option maxRecDepth 20000 in
theorem mlL_69 : Cond.methodLink RL 69 yX5_bestOrder ∈ zBIG := zB_t 554 (by decide +kernel) rfl
set_option maxRecDepth 20000 in
theorem mlL_72 : Cond.methodLink RL 72 yX6_bestOrder ∈ zBIG := zB_t 1015 (by decide +kernel) rfl
set_option maxRecDepth 20000 in
theorem mlL_73 : Cond.methodLink RL 73 yX5_ranks ∈ zBIG := zB_t 562 (by decide +kernel) rfl
set_option maxRecDepth 20000 in
theorem mlL_76 : Cond.methodLink RL 76 yX6_ranks ∈ zBIG := zB_t 959 (by decide +kernel) rfl
set_option maxRecDepth 20000 in
theorem mlL_77 : Cond.methodLink RL 77 yX5_asked ∈ zBIG := zB_t 571 (by decide +kernel) rfl
set_option maxRecDepth 20000 in
theorem mlL_80 : Cond.methodLink RL 80 yX6_asked ∈ zBIG := zB_t 983 (by decide +kernel) rfl
set_option maxRecDepth 20000 in
theorem mlL_81 : Cond.methodLink RL 81 yX5_firm ∈ zBIG := zB_t 575 (by decide +kernel) rfl
set_option maxRecDepth 20000 in
theorem mlL_84 : Cond.methodLink RL 84 yX6_firm ∈ zBIG := zB_t 1023 (by decide +kernel) rfl
set_option maxRecDepth 20000 in
theorem mlL_85 : Cond.methodLink RL 85 yX5_row ∈ zBIG := zB_t 605 (by decide +kernel) rfl
set_option maxRecDepth 20000 in
theorem mlL_88 : Cond.methodLink RL 88 yX6_row ∈ zBIG := zB_t 1039 (by decide +kernel) rfl
set_option maxRecDepth 20000 in
theorem mlL_89 : Cond.methodLink RL 89 yX5_rather ∈ zBIG := zB_t 609 (by decide +kernel) rfl
set_option maxRecDepth 20000 in
theorem mlL_92 : Cond.methodLink RL 92 yX6_rather ∈ zBIG := zB_t 1043 (by decide +kernel) rfl
set_option maxRecDepth 20000 in
theorem mlL_93 : Cond.methodLink RL 93 yX5_truly ∈ zBIG := zB_t 620 (by decide +kernel) rfl
set_option maxRecDepth 20000 in
theorem mlL_96 : Cond.methodLink RL 96 yX6_truly ∈ zBIG := zB_t 1051 (by decide +kernel) rfl
set_option maxRecDepth 20000 in
theorem mlL_97 : Cond.methodLink RL 97 yX5_judge ∈ zBIG := zB_t 625 (by decide +kernel) rfl
set_option maxRecDepth 20000 in
theorem mlL_100 : Cond.methodLink RL 100 yX6_judge ∈ zBIG := zB_t 1055 (by decide +kernel) rfl
set_option maxRecDepth 20000 in
theorem mlL_101 : Cond.methodLink RL 101 yX5_clear ∈ zBIG := zB_t 638 (by decide +kernel) rfl
set_option maxRecDepth 20000 in
theorem mlL_104 : Cond.methodLink RL 104 yX6_clear ∈ zBIG := zB_t 1067 (by decide +kernel) rfl
set_option maxRecDepth 20000 in
theorem mlL_105 : Cond.methodLink RL 105 yX5_lots ∈ zBIG := zB_t 639 (by decide +kernel) rfl
set_option maxRecDepth 20000 in
theorem mlL_108 : Cond.methodLink RL 108 yX6_lots ∈ zBIG := zB_t 1071 (by decide +kernel) rfl
set_option maxRecDepth 20000 in
theorem mlL_109 : Cond.methodLink RL 109 yX5_image ∈ zBIG := zB_t 652 (by decide +kernel) rfl
set_option maxRecDepth 20000 in
theorem mlL_112 : Cond.methodLink RL 112 yX6_image ∈ zBIG := zB_t 1082 (by decide +kernel) rfl
set_option maxRecDepth 20000 in
theorem mlL_113 : Cond.methodLink RL 113 yX5_on ∈ zBIG := zB_t 656 (by decide +kernel) rfl
set_option maxRecDepth 20000 in
theorem mlL_116 : Cond.methodLink RL 116 yX6_on ∈ zBIG := zB_t 1086 (by decide +kernel) rfl
set_option maxRecDepth 20000 in
theorem mlL_117 : Cond.methodLink RL 117 yX5_count ∈ zBIG := zB_t 660 (by decide +kernel) rfl
set_option maxRecDepth 20000 in
theorem mlL_120 : Cond.methodLink RL 120 yX6_count ∈ zBIG := zB_t 1090 (by decide +kernel) rfl
set_option maxRecDepth 20000 in
theorem mlX6_117 : Cond.methodLink RX6 117 yX6_in ∈ zBIG := zB_t 826 (by decide +kernel) rfl
set_option maxRecDepth 20000 in
theorem mlX6_121 : Cond.methodLink RX6 121 yX6_isOf ∈ zBIG := zB_t 850 (by decide +kernel) rfl
set_option maxRecDepth 20000 in
theorem mlX6_124 : Cond.methodLink RX6 124 yX6_isPerson ∈ zBIG := zB_t 874 (by decide +kernel) rfl
set_option maxRecDepth 20000 in
theorem mlX6_128 : Cond.methodLink RX6 128 yX6_no ∈ zBIG := zB_t 786 (by decide +kernel) rfl
set_option maxRecDepth 20000 in
theorem mlX6_132 : Cond.methodLink RX6 132 yX6_next ∈ zBIG := zB_t 802 (by decide +kernel) rfl
set_option maxRecDepth 20000 in
theorem mlX6_136 : Cond.methodLink RX6 136 yX6_kindOf ∈ zBIG := zB_t 814 (by decide +kernel) rfl
set_option maxRecDepth 20000 in
theorem mlX6_139 : Cond.methodLink RX6 139 yX6_digit ∈ zBIG := zB_t 822 (by decide +kernel) rfl
set_option maxRecDepth 20000 in
theorem mlX6_142 : Cond.methodLink RX6 142 yX6_takesOne ∈ zBIG := zB_t 818 (by decide +kernel) rfl
set_option maxRecDepth 20000 in
theorem mlX6_146 : Cond.methodLink RX6 146 yX6_takesTwo ∈ zBIG := zB_t 834 (by decide +kernel) rfl
set_option maxRecDepth 20000 in
theorem mlX6_149 : Cond.methodLink RX6 149 yX6_takesKind ∈ zBIG := zB_t 810 (by decide +kernel) rfl
set_option maxRecDepth 20000 in
theorem mlX6_152 : Cond.methodLink RX6 152 yX6_takesThree ∈ zBIG := zB_t 830 (by decide +kernel) rfl
set_option maxRecDepth 20000 in
theorem mlX6_155 : Cond.methodLink RX6 155 yX6_takesRest ∈ zBIG := zB_t 806 (by decide +kernel) rfl
set_option maxRecDepth 20000 in
theorem mlX6_158 : Cond.methodLink RX6 158 yX6_takes ∈ zBIG := zB_t 838 (by decide +kernel) rfl
set_option maxRecDepth 20000 in
theorem mlX6_161 : Cond.methodLink RX6 161 yX6_takesStatement ∈ zBIG := zB_t 798 (by decide +kernel) rfl
set_option maxRecDepth 20000 in
theorem mlX6_164 : Cond.methodLink RX6 164 yX6_isGood ∈ zBIG := zB_t 846 (by decide +kernel) rfl
set_option maxRecDepth 20000 in
theorem mlX6_167 : Cond.methodLink RX6 167 yX6_otherOf ∈ zBIG := zB_t 866 (by decide +kernel) rfl
set_option maxRecDepth 20000 in
theorem mlX6_171 : Cond.methodLink RX6 171 yX6_newOne ∈ zBIG := zB_t 862 (by decide +kernel) rfl
set_option maxRecDepth 20000 in
theorem mlX6_175 : Cond.methodLink RX6 175 yX6_comes ∈ zBIG := zB_t 858 (by decide +kernel) rfl
set_option maxRecDepth 20000 in
theorem mlX6_178 : Cond.methodLink RX6 178 yX6_isText ∈ zBIG := zB_t 794 (by decide +kernel) rfl
set_option maxRecDepth 20000 in
theorem mlX6_181 : Cond.methodLink RX6 181 yX6_wrongPlace ∈ zBIG := zB_t 842 (by decide +kernel) rfl
set_option maxRecDepth 20000 in
theorem mlX6_184 : Cond.methodLink RX6 184 yX6_comesAll ∈ zBIG := zB_t 854 (by decide +kernel) rfl
set_option maxRecDepth 20000 in
theorem mlX6_187 : Cond.methodLink RX6 187 yX6_roundsNow ∈ zBIG := zB_t 882 (by decide +kernel) rfl
set_option maxRecDepth 20000 in
theorem mlX6_190 : Cond.methodLink RX6 190 yX6_metBy ∈ zBIG := zB_t 886 (by decide +kernel) rfl
set_option maxRecDepth 20000 in
theorem mlX6_193 : Cond.methodLink RX6 193 yX6_likingOf ∈ zBIG := zB_t 898 (by decide +kernel) rfl
set_option maxRecDepth 20000 in
theorem mlX6_196 : Cond.methodLink RX6 196 yX6_tired ∈ zBIG := zB_t 931 (by decide +kernel) rfl
set_option maxRecDepth 20000 in
theorem mlX6_200 : Cond.methodLink RX6 200 yX6_behindOf ∈ zBIG := zB_t 935 (by decide +kernel) rfl
set_option maxRecDepth 20000 in
theorem mlX6_203 : Cond.methodLink RX6 203 yX6_feels ∈ zBIG := zB_t 927 (by decide +kernel) rfl
set_option maxRecDepth 20000 in
theorem mlX6_206 : Cond.methodLink RX6 206 yX6_others ∈ zBIG := zB_t 947 (by decide +kernel) rfl
set_option maxRecDepth 20000 in
theorem mlX6_209 : Cond.methodLink RX6 209 yX6_saysYes ∈ zBIG := zB_t 951 (by decide +kernel) rfl
set_option maxRecDepth 20000 in
theorem mlX6_213 : Cond.methodLink RX6 213 yX6_gapsOf ∈ zBIG := zB_t 878 (by decide +kernel) rfl
set_option maxRecDepth 20000 in
theorem mlX6_216 : Cond.methodLink RX6 216 yX6_areTwo ∈ zBIG := zB_t 894 (by decide +kernel) rfl
set_option maxRecDepth 20000 in
theorem mlX6_219 : Cond.methodLink RX6 219 yX6_isRound ∈ zBIG := zB_t 918 (by decide +kernel) rfl
set_option maxRecDepth 20000 in
theorem mlX6_223 : Cond.methodLink RX6 223 yX6_yesesOf ∈ zBIG := zB_t 943 (by decide +kernel) rfl
set_option maxRecDepth 20000 in
theorem mlX6_226 : Cond.methodLink RX6 226 yX6_yesesTo ∈ zBIG := zB_t 955 (by decide +kernel) rfl
set_option maxRecDepth 20000 in
theorem mlX6_229 : Cond.methodLink RX6 229 yX6_has ∈ zBIG := zB_t 975 (by decide +kernel) rfl
set_option maxRecDepth 20000 in
theorem mlX6_232 : Cond.methodLink RX6 232 yX6_nextAsker ∈ zBIG := zB_t 967 (by decide +kernel) rfl
set_option maxRecDepth 20000 in
theorem mlX6_235 : Cond.methodLink RX6 235 yX6_dearest ∈ zBIG := zB_t 971 (by decide +kernel) rfl
set_option maxRecDepth 20000 in
theorem mlX6_238 : Cond.methodLink RX6 238 yX6_isRather ∈ zBIG := zB_t 979 (by decide +kernel) rfl
set_option maxRecDepth 20000 in
theorem mlX6_241 : Cond.methodLink RX6 241 yX6_layRanks ∈ zBIG := zB_t 963 (by decide +kernel) rfl
set_option maxRecDepth 20000 in
theorem mlX6_244 : Cond.methodLink RX6 244 yX6_layCounts ∈ zBIG := zB_t 991 (by decide +kernel) rfl
set_option maxRecDepth 20000 in
theorem mlX6_247 : Cond.methodLink RX6 247 yX6_allPairs ∈ zBIG := zB_t 995 (by decide +kernel) rfl
set_option maxRecDepth 20000 in
theorem mlX6_250 : Cond.methodLink RX6 250 yX6_pairsOf ∈ zBIG := zB_t 999 (by decide +kernel) rfl
set_option maxRecDepth 20000 in
theorem mlX6_253 : Cond.methodLink RX6 253 yX6_shadedNow ∈ zBIG := zB_t 1011 (by decide +kernel) rfl
set_option maxRecDepth 20000 in
theorem mlX6_256 : Cond.methodLink RX6 256 yX6_meetAll ∈ zBIG := zB_t 1019 (by decide +kernel) rfl
set_option maxRecDepth 20000 in
theorem mlX6_259 : Cond.methodLink RX6 259 yX6_wouldRather ∈ zBIG := zB_t 1035 (by decide +kernel) rfl
set_option maxRecDepth 20000 in
theorem mlX6_262 : Cond.methodLink RX6 262 yX6_layWay ∈ zBIG := zB_t 1027 (by decide +kernel) rfl
set_option maxRecDepth 20000 in
theorem mlX6_265 : Cond.methodLink RX6 265 yX6_firstRather ∈ zBIG := zB_t 1031 (by decide +kernel) rfl
set_option maxRecDepth 20000 in
theorem mlX6_268 : Cond.methodLink RX6 268 yX6_isWay ∈ zBIG := zB_t 1047 (by decide +kernel) rfl
set_option maxRecDepth 20000 in
theorem mlX6_271 : Cond.methodLink RX6 271 yX6_nth ∈ zBIG := zB_t 1063 (by decide +kernel) rfl
set_option maxRecDepth 20000 in
theorem mlX6_274 : Cond.methodLink RX6 274 yX6_judged ∈ zBIG := zB_t 1059 (by decide +kernel) rfl
set_option maxRecDepth 20000 in
theorem mlX6_280 : Cond.methodLink RX6 280 yX6_draw ∈ zBIG := zB_t 1075 (by decide +kernel) rfl
set_option maxRecDepth 20000 in
theorem mlX6_283 : Cond.methodLink RX6 283 yX6_allGaps ∈ zBIG := zB_t 1094 (by decide +kernel) rfl
set_option maxRecDepth 20000 in
theorem mlJ0_335 : Cond.methodLink RJ0 335 yJ0_coder_7d493 ∈ zBIG := zB_t 217 (by decide +kernel) rfl
set_option maxRecDepth 20000 in
theorem mlJ0_492 : Cond.methodLink RJ0 492 yJ0_isLatin1_aae02 ∈ zBIG := zB_t 227 (by decide +kernel) rfl
set_option maxRecDepth 20000 in
theorem mlJ0_495 : Cond.methodLink RJ0 495 yJ1_charAt_3b067 ∈ zBIG := zB_t 231 (by decide +kernel) rfl
set_option maxRecDepth 20000 in
theorem mlJ0_498 : Cond.methodLink RJ0 498 yJ2_charAt_3b067 ∈ zBIG := zB_t 242 (by decide +kernel) rfl
set_option maxRecDepth 20000 in
theorem mlJ0_505 : Cond.methodLink RJ0 505 yJ0_length_8abf5 ∈ zBIG := zB_t 273 (by decide +kernel) rfl
set_option maxRecDepth 20000 in
theorem mlJ0_633 : Cond.methodLink RJ0 633 yJ0_indexOf_7cf53 ∈ zBIG := zB_t 269 (by decide +kernel) rfl
set_option maxRecDepth 20000 in
theorem mlJ0_637 : Cond.methodLink RJ0 637 yJ1_indexOf_4cfef ∈ zBIG := zB_t 274 (by decide +kernel) rfl
set_option maxRecDepth 20000 in
theorem mlJ0_640 : Cond.methodLink RJ0 640 yJ2_indexOf_4cfef ∈ zBIG := zB_t 289 (by decide +kernel) rfl
set_option maxRecDepth 20000 in
theorem mlJ0_1059 : Cond.methodLink RJ0 1059 yJ3_checkIndex_8e157 ∈ zBIG := zB_t 239 (by decide +kernel) rfl
set_option maxRecDepth 20000 in
theorem mlJ0_1062 : Cond.methodLink RJ0 1062 yJ3_checkFromToIndex_8c36e ∈ zBIG := zB_t 304 (by decide +kernel) rfl
set_option maxRecDepth 20000 in
theorem mlJ1_9 : Cond.methodLink RJ1 9 yJ0_checkIndex_df160 ∈ zBIG := zB_t 234 (by decide +kernel) rfl
set_option maxRecDepth 20000 in
theorem mlJ1_38 : Cond.methodLink RJ1 38 yJ9_min_7cf53 ∈ zBIG := zB_t 283 (by decide +kernel) rfl
set_option maxRecDepth 20000 in
theorem mlJ1_88 : Cond.methodLink RJ1 88 yJ1_canEncode_9a6ad ∈ zBIG := zB_t 277 (by decide +kernel) rfl
set_option maxRecDepth 20000 in
theorem mlJ1_92 : Cond.methodLink RJ1 92 yJ9_max_7cf53 ∈ zBIG := zB_t 280 (by decide +kernel) rfl
set_option maxRecDepth 20000 in
theorem mlJ1_95 : Cond.methodLink RJ1 95 yJ1_indexOfChar_4cfef ∈ zBIG := zB_t 286 (by decide +kernel) rfl
set_option maxRecDepth 20000 in
theorem mlJ2_48 : Cond.methodLink RJ2 48 yJ2_length_9d52b ∈ zBIG := zB_t 248 (by decide +kernel) rfl
set_option maxRecDepth 20000 in
theorem mlJ2_67 : Cond.methodLink RJ2 67 yJ2_checkIndex_2214a ∈ zBIG := zB_t 245 (by decide +kernel) rfl
set_option maxRecDepth 20000 in
theorem mlJ2_71 : Cond.methodLink RJ2 71 yJ2_getChar_3b067 ∈ zBIG := zB_t 252 (by decide +kernel) rfl
set_option maxRecDepth 20000 in
theorem mlJ2_96 : Cond.methodLink RJ2 96 yJ2_checkBoundsBeginEnd_d044e ∈ zBIG := zB_t 298 (by decide +kernel) rfl
set_option maxRecDepth 20000 in
theorem mlJ2_157 : Cond.methodLink RJ2 157 yJ11_highSurrogate_5068e ∈ zBIG := zB_t 316 (by decide +kernel) rfl
set_option maxRecDepth 20000 in
theorem mlJ2_161 : Cond.methodLink RJ2 161 yJ11_lowSurrogate_5068e ∈ zBIG := zB_t 320 (by decide +kernel) rfl
set_option maxRecDepth 20000 in
theorem mlJ2_164 : Cond.methodLink RJ2 164 yJ11_isValidCodePoint_9a6ad ∈ zBIG := zB_t 313 (by decide +kernel) rfl
set_option maxRecDepth 20000 in
theorem mlJ2_183 : Cond.methodLink RJ2 183 yJ9_min_7cf53 ∈ zBIG := zB_t 293 (by decide +kernel) rfl
set_option maxRecDepth 20000 in
theorem mlJ2_224 : Cond.methodLink RJ2 224 yJ9_max_7cf53 ∈ zBIG := zB_t 292 (by decide +kernel) rfl
set_option maxRecDepth 20000 in
theorem mlJ2_228 : Cond.methodLink RJ2 228 yJ2_indexOfChar_4cfef ∈ zBIG := zB_t 295 (by decide +kernel) rfl
set_option maxRecDepth 20000 in
theorem mlJ2_232 : Cond.methodLink RJ2 232 yJ2_indexOfSupplementary_4cfef ∈ zBIG := zB_t 310 (by decide +kernel) rfl
set_option maxRecDepth 20000 in
theorem mlJ2_241 : Cond.methodLink RJ2 241 yJ0_checkBoundsBeginEnd_23922 ∈ zBIG := zB_t 301 (by decide +kernel) rfl
set_option maxRecDepth 20000 in
theorem mlJ2_244 : Cond.methodLink RJ2 244 yJ2_indexOfCharUnsafe_4cfef ∈ zBIG := zB_t 307 (by decide +kernel) rfl
set_option maxRecDepth 20000 in
theorem mlJ2_414 : Cond.methodLink RJ2 414 yJ0_checkIndex_df160 ∈ zBIG := zB_t 251 (by decide +kernel) rfl
set_option maxRecDepth 20000 in
theorem kkX5_141 : Cond.constant RX5 141 (iI 1000000000) ∈ zBIG := zB_t 477 (by decide +kernel) rfl
set_option maxRecDepth 20000 in
theorem kkX4_65 : Cond.constant RX4 65 (iI 1664525) ∈ zBIG := zB_t 648 (by decide +kernel) rfl
set_option maxRecDepth 20000 in
theorem kkX4_66 : Cond.constant RX4 66 (iI 1013904223) ∈ zBIG := zB_t 649 (by decide +kernel) rfl
set_option maxRecDepth 20000 in
theorem kkX4_70 : Cond.constant RX4 70 (iI 2147483647) ∈ zBIG := zB_t 651 (by decide +kernel) rfl
set_option maxRecDepth 20000 in
theorem kkX6_222 : Cond.constant RX6 222 (iI 1000000000) ∈ zBIG := zB_t 926 (by decide +kernel) rfl
set_option maxRecDepth 20000 in
theorem kkX6_277 : Cond.constant RX6 277 (iI 1664525) ∈ zBIG := zB_t 1079 (by decide +kernel) rfl
set_option maxRecDepth 20000 in
theorem kkX6_278 : Cond.constant RX6 278 (iI 1013904223) ∈ zBIG := zB_t 1080 (by decide +kernel) rfl
set_option maxRecDepth 20000 in
theorem kkX6_279 : Cond.constant RX6 279 (iI 2147483647) ∈ zBIG := zB_t 1081 (by decide +kernel) rfl
set_option maxRecDepth 20000 in
theorem kkJ11_76 : Cond.constant RJ11 76 (iI 56320) ∈ zBIG := zB_t 323 (by decide +kernel) rfl
set_option maxRecDepth 20000 in
theorem kkJ11_110 : Cond.constant RJ11 110 (iI 55232) ∈ zBIG := zB_t 319 (by decide +kernel) rfl
set_option maxRecDepth 20000 in
theorem kkJ6_265 : Cond.constant RJ6 265 (iI 1431655765) ∈ zBIG := zB_t 539 (by decide +kernel) rfl
set_option maxRecDepth 20000 in
theorem kkJ6_266 : Cond.constant RJ6 266 (iI 858993459) ∈ zBIG := zB_t 540 (by decide +kernel) rfl
set_option maxRecDepth 20000 in
theorem kkJ6_267 : Cond.constant RJ6 267 (iI 252645135) ∈ zBIG := zB_t 541 (by decide +kernel) rfl
set_option maxRecDepth 20000 in
theorem kkJ2_227 : Cond.constant RJ2 227 (iI 65536) ∈ zBIG := zB_t 294 (by decide +kernel) rfl
