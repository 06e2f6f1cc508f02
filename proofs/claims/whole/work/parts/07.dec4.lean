theorem dX9_next_8 : decode cX9_next 8 = .ok (.if_icmp .ge 15, 3) := by decide +kernel
theorem dX9_next_11 : decode cX9_next 11 = .ok (.aload_n 0, 1) := by decide +kernel
theorem dX9_next_12 : decode cX9_next 12 = .ok (.getfield 19, 3) := by decide +kernel
theorem dX9_next_15 : decode cX9_next 15 = .ok (.aload_n 0, 1) := by decide +kernel
theorem dX9_next_16 : decode cX9_next 16 = .ok (.getfield 162, 3) := by decide +kernel
theorem dX9_next_19 : decode cX9_next 19 = .ok (.iaload, 1) := by decide +kernel
theorem dX9_next_20 : decode cX9_next 20 = .ok (.goto 4, 3) := by decide +kernel
theorem dX9_next_23 : decode cX9_next 23 = .ok (.iconst 0, 1) := by decide +kernel
theorem dX9_next_24 : decode cX9_next 24 = .ok (.ireturn, 1) := by decide +kernel
theorem dX9_sign_0 : decode cX9_sign 0 = .ok (.aload_n 0, 1) := by decide +kernel
theorem dX9_sign_1 : decode cX9_sign 1 = .ok (.aload_n 0, 1) := by decide +kernel
theorem dX9_sign_2 : decode cX9_sign 2 = .ok (.getfield 165, 3) := by decide +kernel
theorem dX9_sign_5 : decode cX9_sign 5 = .ok (.ifCond .ne 11, 3) := by decide +kernel
theorem dX9_sign_8 : decode cX9_sign 8 = .ok (.aload_n 0, 1) := by decide +kernel
theorem dX9_sign_9 : decode cX9_sign 9 = .ok (.invokevirtual 169, 3) := by decide +kernel
theorem dX9_sign_12 : decode cX9_sign 12 = .ok (.iload_n 1, 1) := by decide +kernel
theorem dX9_sign_13 : decode cX9_sign 13 = .ok (.if_icmp .eq 7, 3) := by decide +kernel
theorem dX9_sign_16 : decode cX9_sign 16 = .ok (.iconst 1, 1) := by decide +kernel
theorem dX9_sign_17 : decode cX9_sign 17 = .ok (.goto 4, 3) := by decide +kernel
theorem dX9_sign_20 : decode cX9_sign 20 = .ok (.iconst 0, 1) := by decide +kernel
theorem dX9_sign_21 : decode cX9_sign 21 = .ok (.putfield 165, 3) := by decide +kernel
theorem dX9_sign_24 : decode cX9_sign 24 = .ok (.aload_n 0, 1) := by decide +kernel
theorem dX9_sign_25 : decode cX9_sign 25 = .ok (.dup, 1) := by decide +kernel
theorem dX9_sign_26 : decode cX9_sign 26 = .ok (.getfield 162, 3) := by decide +kernel
theorem dX9_sign_29 : decode cX9_sign 29 = .ok (.aload_n 0, 1) := by decide +kernel
theorem dX9_sign_30 : decode cX9_sign 30 = .ok (.getfield 165, 3) := by decide +kernel
theorem dX9_sign_33 : decode cX9_sign 33 = .ok (.ifCond .eq 7, 3) := by decide +kernel
theorem dX9_sign_36 : decode cX9_sign 36 = .ok (.iconst 0, 1) := by decide +kernel
theorem dX9_sign_37 : decode cX9_sign 37 = .ok (.goto 4, 3) := by decide +kernel
theorem dX9_sign_40 : decode cX9_sign 40 = .ok (.iconst 1, 1) := by decide +kernel
theorem dX9_sign_41 : decode cX9_sign 41 = .ok (.iadd, 1) := by decide +kernel
theorem dX9_sign_42 : decode cX9_sign 42 = .ok (.putfield 162, 3) := by decide +kernel
theorem dX9_sign_45 : decode cX9_sign 45 = .ok (.return_, 1) := by decide +kernel
theorem dX9_digit_0 : decode cX9_digit 0 = .ok (.aload_n 0, 1) := by decide +kernel
theorem dX9_digit_1 : decode cX9_digit 1 = .ok (.invokevirtual 169, 3) := by decide +kernel
theorem dX9_digit_4 : decode cX9_digit 4 = .ok (.bipush 48, 2) := by decide +kernel
theorem dX9_digit_6 : decode cX9_digit 6 = .ok (.isub, 1) := by decide +kernel
theorem dX9_digit_7 : decode cX9_digit 7 = .ok (.istore_n 3, 1) := by decide +kernel
theorem dX9_digit_8 : decode cX9_digit 8 = .ok (.aload_n 0, 1) := by decide +kernel
theorem dX9_digit_9 : decode cX9_digit 9 = .ok (.aload_n 0, 1) := by decide +kernel
theorem dX9_digit_10 : decode cX9_digit 10 = .ok (.getfield 165, 3) := by decide +kernel
theorem dX9_digit_13 : decode cX9_digit 13 = .ok (.ifCond .ne 12, 3) := by decide +kernel
theorem dX9_digit_16 : decode cX9_digit 16 = .ok (.iload_n 3, 1) := by decide +kernel
theorem dX9_digit_17 : decode cX9_digit 17 = .ok (.iload_n 1, 1) := by decide +kernel
theorem dX9_digit_18 : decode cX9_digit 18 = .ok (.iload_n 2, 1) := by decide +kernel
theorem dX9_digit_19 : decode cX9_digit 19 = .ok (.invokestatic 44, 3) := by decide +kernel
theorem dX9_digit_22 : decode cX9_digit 22 = .ok (.ifCond .ne 7, 3) := by decide +kernel
theorem dX9_digit_25 : decode cX9_digit 25 = .ok (.iconst 1, 1) := by decide +kernel
theorem dX9_digit_26 : decode cX9_digit 26 = .ok (.goto 4, 3) := by decide +kernel
theorem dX9_digit_29 : decode cX9_digit 29 = .ok (.iconst 0, 1) := by decide +kernel
theorem dX9_digit_30 : decode cX9_digit 30 = .ok (.putfield 165, 3) := by decide +kernel
theorem dX9_digit_33 : decode cX9_digit 33 = .ok (.aload_n 0, 1) := by decide +kernel
theorem dX9_digit_34 : decode cX9_digit 34 = .ok (.dup, 1) := by decide +kernel
theorem dX9_digit_35 : decode cX9_digit 35 = .ok (.getfield 162, 3) := by decide +kernel
theorem dX9_digit_38 : decode cX9_digit 38 = .ok (.aload_n 0, 1) := by decide +kernel
theorem dX9_digit_39 : decode cX9_digit 39 = .ok (.getfield 165, 3) := by decide +kernel
theorem dX9_digit_42 : decode cX9_digit 42 = .ok (.ifCond .eq 7, 3) := by decide +kernel
theorem dX9_digit_45 : decode cX9_digit 45 = .ok (.iconst 0, 1) := by decide +kernel
theorem dX9_digit_46 : decode cX9_digit 46 = .ok (.goto 4, 3) := by decide +kernel
theorem dX9_digit_49 : decode cX9_digit 49 = .ok (.iconst 1, 1) := by decide +kernel
theorem dX9_digit_50 : decode cX9_digit 50 = .ok (.iadd, 1) := by decide +kernel
theorem dX9_digit_51 : decode cX9_digit 51 = .ok (.putfield 162, 3) := by decide +kernel
theorem dX9_digit_54 : decode cX9_digit 54 = .ok (.iload_n 3, 1) := by decide +kernel
theorem dX9_digit_55 : decode cX9_digit 55 = .ok (.ireturn, 1) := by decide +kernel
theorem dX9_number_0 : decode cX9_number 0 = .ok (.aload_n 0, 1) := by decide +kernel
theorem dX9_number_1 : decode cX9_number 1 = .ok (.iconst 1, 1) := by decide +kernel
theorem dX9_number_2 : decode cX9_number 2 = .ok (.bipush 9, 2) := by decide +kernel
theorem dX9_number_4 : decode cX9_number 4 = .ok (.invokevirtual 172, 3) := by decide +kernel
theorem dX9_number_7 : decode cX9_number 7 = .ok (.istore_n 2, 1) := by decide +kernel
theorem dX9_number_8 : decode cX9_number 8 = .ok (.aload_n 0, 1) := by decide +kernel
theorem dX9_number_9 : decode cX9_number 9 = .ok (.getfield 165, 3) := by decide +kernel
theorem dX9_number_12 : decode cX9_number 12 = .ok (.ifCond .ne 59, 3) := by decide +kernel
theorem dX9_number_15 : decode cX9_number 15 = .ok (.aload_n 0, 1) := by decide +kernel
theorem dX9_number_16 : decode cX9_number 16 = .ok (.invokevirtual 169, 3) := by decide +kernel
theorem dX9_number_19 : decode cX9_number 19 = .ok (.bipush 48, 2) := by decide +kernel
theorem dX9_number_21 : decode cX9_number 21 = .ok (.bipush 57, 2) := by decide +kernel
theorem dX9_number_23 : decode cX9_number 23 = .ok (.invokestatic 44, 3) := by decide +kernel
theorem dX9_number_26 : decode cX9_number 26 = .ok (.ifCond .eq 45, 3) := by decide +kernel
theorem dX9_number_29 : decode cX9_number 29 = .ok (.bipush 10, 2) := by decide +kernel
theorem dX9_number_31 : decode cX9_number 31 = .ok (.iload_n 2, 1) := by decide +kernel
theorem dX9_number_32 : decode cX9_number 32 = .ok (.imul, 1) := by decide +kernel
theorem dX9_number_33 : decode cX9_number 33 = .ok (.aload_n 0, 1) := by decide +kernel
theorem dX9_number_34 : decode cX9_number 34 = .ok (.invokevirtual 169, 3) := by decide +kernel
theorem dX9_number_37 : decode cX9_number 37 = .ok (.iadd, 1) := by decide +kernel
theorem dX9_number_38 : decode cX9_number 38 = .ok (.bipush 48, 2) := by decide +kernel
theorem dX9_number_40 : decode cX9_number 40 = .ok (.isub, 1) := by decide +kernel
theorem dX9_number_41 : decode cX9_number 41 = .ok (.iload_n 1, 1) := by decide +kernel
theorem dX9_number_42 : decode cX9_number 42 = .ok (.if_icmp .gt 29, 3) := by decide +kernel
theorem dX9_number_45 : decode cX9_number 45 = .ok (.bipush 10, 2) := by decide +kernel
theorem dX9_number_47 : decode cX9_number 47 = .ok (.iload_n 2, 1) := by decide +kernel
theorem dX9_number_48 : decode cX9_number 48 = .ok (.imul, 1) := by decide +kernel
theorem dX9_number_49 : decode cX9_number 49 = .ok (.aload_n 0, 1) := by decide +kernel
theorem dX9_number_50 : decode cX9_number 50 = .ok (.invokevirtual 169, 3) := by decide +kernel
theorem dX9_number_53 : decode cX9_number 53 = .ok (.iadd, 1) := by decide +kernel
theorem dX9_number_54 : decode cX9_number 54 = .ok (.bipush 48, 2) := by decide +kernel
theorem dX9_number_56 : decode cX9_number 56 = .ok (.isub, 1) := by decide +kernel
theorem dX9_number_57 : decode cX9_number 57 = .ok (.istore_n 2, 1) := by decide +kernel
theorem dX9_number_58 : decode cX9_number 58 = .ok (.aload_n 0, 1) := by decide +kernel
theorem dX9_number_59 : decode cX9_number 59 = .ok (.dup, 1) := by decide +kernel
theorem dX9_number_60 : decode cX9_number 60 = .ok (.getfield 162, 3) := by decide +kernel
theorem dX9_number_63 : decode cX9_number 63 = .ok (.iconst 1, 1) := by decide +kernel
theorem dX9_number_64 : decode cX9_number 64 = .ok (.iadd, 1) := by decide +kernel
theorem dX9_number_65 : decode cX9_number 65 = .ok (.putfield 162, 3) := by decide +kernel
theorem dX9_number_68 : decode cX9_number 68 = .ok (.goto (-60), 3) := by decide +kernel
theorem dX9_number_71 : decode cX9_number 71 = .ok (.iload_n 2, 1) := by decide +kernel
theorem dX9_number_72 : decode cX9_number 72 = .ok (.ireturn, 1) := by decide +kernel
theorem dX9_part_0 : decode cX9_part 0 = .ok (.aload_n 0, 1) := by decide +kernel
theorem dX9_part_1 : decode cX9_part 1 = .ok (.getfield 165, 3) := by decide +kernel
theorem dX9_part_4 : decode cX9_part 4 = .ok (.ifCond .eq 7, 3) := by decide +kernel
theorem dX9_part_7 : decode cX9_part 7 = .ok (.iconst 0, 1) := by decide +kernel
theorem dX9_part_8 : decode cX9_part 8 = .ok (.goto 7, 3) := by decide +kernel
theorem dX9_part_11 : decode cX9_part 11 = .ok (.aload_n 0, 1) := by decide +kernel
theorem dX9_part_12 : decode cX9_part 12 = .ok (.invokevirtual 169, 3) := by decide +kernel
theorem dX9_part_15 : decode cX9_part 15 = .ok (.istore_n 1, 1) := by decide +kernel
theorem dX9_part_16 : decode cX9_part 16 = .ok (.iload_n 1, 1) := by decide +kernel
theorem dX9_part_17 : decode cX9_part 17 = .ok (.bipush 45, 2) := by decide +kernel
theorem dX9_part_19 : decode cX9_part 19 = .ok (.if_icmp .eq 15, 3) := by decide +kernel
theorem dX9_part_22 : decode cX9_part 22 = .ok (.iload_n 1, 1) := by decide +kernel
theorem dX9_part_23 : decode cX9_part 23 = .ok (.bipush 98, 2) := by decide +kernel
theorem dX9_part_25 : decode cX9_part 25 = .ok (.if_icmp .eq 9, 3) := by decide +kernel
theorem dX9_part_28 : decode cX9_part 28 = .ok (.iload_n 1, 1) := by decide +kernel
theorem dX9_part_29 : decode cX9_part 29 = .ok (.bipush 115, 2) := by decide +kernel
theorem dX9_part_31 : decode cX9_part 31 = .ok (.if_icmp .ne 21, 3) := by decide +kernel
theorem dX9_part_34 : decode cX9_part 34 = .ok (.aload_n 0, 1) := by decide +kernel
theorem dX9_part_35 : decode cX9_part 35 = .ok (.iload_n 1, 1) := by decide +kernel
theorem dX9_part_36 : decode cX9_part 36 = .ok (.putfield 175, 3) := by decide +kernel
theorem dX9_part_39 : decode cX9_part 39 = .ok (.aload_n 0, 1) := by decide +kernel
theorem dX9_part_40 : decode cX9_part 40 = .ok (.dup, 1) := by decide +kernel
theorem dX9_part_41 : decode cX9_part 41 = .ok (.getfield 162, 3) := by decide +kernel
theorem dX9_part_44 : decode cX9_part 44 = .ok (.iconst 1, 1) := by decide +kernel
theorem dX9_part_45 : decode cX9_part 45 = .ok (.iadd, 1) := by decide +kernel
theorem dX9_part_46 : decode cX9_part 46 = .ok (.putfield 162, 3) := by decide +kernel
theorem dX9_part_49 : decode cX9_part 49 = .ok (.goto 9, 3) := by decide +kernel
theorem dX9_part_52 : decode cX9_part 52 = .ok (.aload_n 0, 1) := by decide +kernel
theorem dX9_part_53 : decode cX9_part 53 = .ok (.bipush 116, 2) := by decide +kernel
theorem dX9_part_55 : decode cX9_part 55 = .ok (.putfield 175, 3) := by decide +kernel
theorem dX9_part_58 : decode cX9_part 58 = .ok (.aload_n 0, 1) := by decide +kernel
theorem dX9_part_59 : decode cX9_part 59 = .ok (.aload_n 0, 1) := by decide +kernel
theorem dX9_part_60 : decode cX9_part 60 = .ok (.iconst 0, 1) := by decide +kernel
theorem dX9_part_61 : decode cX9_part 61 = .ok (.aload_n 0, 1) := by decide +kernel
theorem dX9_part_62 : decode cX9_part 62 = .ok (.getfield 175, 3) := by decide +kernel
theorem dX9_part_65 : decode cX9_part 65 = .ok (.bipush 115, 2) := by decide +kernel
theorem dX9_part_67 : decode cX9_part 67 = .ok (.if_icmp .ne 8, 3) := by decide +kernel
theorem dX9_part_70 : decode cX9_part 70 = .ok (.bipush 7, 2) := by decide +kernel
theorem dX9_part_72 : decode cX9_part 72 = .ok (.goto 4, 3) := by decide +kernel
theorem dX9_part_75 : decode cX9_part 75 = .ok (.iconst 4, 1) := by decide +kernel
theorem dX9_part_76 : decode cX9_part 76 = .ok (.invokevirtual 172, 3) := by decide +kernel
theorem dX9_part_79 : decode cX9_part 79 = .ok (.putfield 178, 3) := by decide +kernel
theorem dX9_part_82 : decode cX9_part 82 = .ok (.aload_n 0, 1) := by decide +kernel
theorem dX9_part_83 : decode cX9_part 83 = .ok (.aload_n 0, 1) := by decide +kernel
theorem dX9_part_84 : decode cX9_part 84 = .ok (.getfield 175, 3) := by decide +kernel
theorem dX9_part_87 : decode cX9_part 87 = .ok (.bipush 98, 2) := by decide +kernel
theorem dX9_part_89 : decode cX9_part 89 = .ok (.if_icmp .ne 8, 3) := by decide +kernel
theorem dX9_part_92 : decode cX9_part 92 = .ok (.bipush 61, 2) := by decide +kernel
theorem dX9_part_94 : decode cX9_part 94 = .ok (.goto 5, 3) := by decide +kernel
theorem dX9_part_97 : decode cX9_part 97 = .ok (.bipush 62, 2) := by decide +kernel
theorem dX9_part_99 : decode cX9_part 99 = .ok (.invokevirtual 181, 3) := by decide +kernel
theorem dX9_part_102 : decode cX9_part 102 = .ok (.aload_n 0, 1) := by decide +kernel
theorem dX9_part_103 : decode cX9_part 103 = .ok (.getfield 175, 3) := by decide +kernel
theorem dX9_part_106 : decode cX9_part 106 = .ok (.bipush 98, 2) := by decide +kernel
theorem dX9_part_108 : decode cX9_part 108 = .ok (.if_icmp .ne 17, 3) := by decide +kernel
theorem dX9_part_111 : decode cX9_part 111 = .ok (.aload_n 0, 1) := by decide +kernel
theorem dX9_part_112 : decode cX9_part 112 = .ok (.aload_n 0, 1) := by decide +kernel
theorem dX9_part_113 : decode cX9_part 113 = .ok (.sipush 9999, 3) := by decide +kernel
theorem dX9_part_116 : decode cX9_part 116 = .ok (.invokevirtual 185, 3) := by decide +kernel
theorem dX9_part_119 : decode cX9_part 119 = .ok (.putfield 189, 3) := by decide +kernel
theorem dX9_part_122 : decode cX9_part 122 = .ok (.goto 13, 3) := by decide +kernel
theorem dX9_part_125 : decode cX9_part 125 = .ok (.aload_n 0, 1) := by decide +kernel
theorem dX9_part_126 : decode cX9_part 126 = .ok (.aload_n 0, 1) := by decide +kernel
theorem dX9_part_127 : decode cX9_part 127 = .ok (.iconst 0, 1) := by decide +kernel
theorem dX9_part_128 : decode cX9_part 128 = .ok (.iconst 4, 1) := by decide +kernel
theorem dX9_part_129 : decode cX9_part 129 = .ok (.invokevirtual 172, 3) := by decide +kernel
theorem dX9_part_132 : decode cX9_part 132 = .ok (.putfield 189, 3) := by decide +kernel
theorem dX9_part_135 : decode cX9_part 135 = .ok (.aload_n 0, 1) := by decide +kernel
theorem dX9_part_136 : decode cX9_part 136 = .ok (.getfield 175, 3) := by decide +kernel
theorem dX9_part_139 : decode cX9_part 139 = .ok (.bipush 116, 2) := by decide +kernel
theorem dX9_part_141 : decode cX9_part 141 = .ok (.if_icmp .ne 35, 3) := by decide +kernel
theorem dX9_part_144 : decode cX9_part 144 = .ok (.aload_n 0, 1) := by decide +kernel
theorem dX9_part_145 : decode cX9_part 145 = .ok (.bipush 61, 2) := by decide +kernel
theorem dX9_part_147 : decode cX9_part 147 = .ok (.invokevirtual 181, 3) := by decide +kernel
theorem dX9_part_150 : decode cX9_part 150 = .ok (.aload_n 0, 1) := by decide +kernel
theorem dX9_part_151 : decode cX9_part 151 = .ok (.aload_n 0, 1) := by decide +kernel
theorem dX9_part_152 : decode cX9_part 152 = .ok (.bipush 99, 2) := by decide +kernel
theorem dX9_part_154 : decode cX9_part 154 = .ok (.invokevirtual 185, 3) := by decide +kernel
theorem dX9_part_157 : decode cX9_part 157 = .ok (.putfield 192, 3) := by decide +kernel
theorem dX9_part_160 : decode cX9_part 160 = .ok (.aload_n 0, 1) := by decide +kernel
theorem dX9_part_161 : decode cX9_part 161 = .ok (.bipush 47, 2) := by decide +kernel
theorem dX9_part_163 : decode cX9_part 163 = .ok (.invokevirtual 181, 3) := by decide +kernel
theorem dX9_part_166 : decode cX9_part 166 = .ok (.aload_n 0, 1) := by decide +kernel
theorem dX9_part_167 : decode cX9_part 167 = .ok (.aload_n 0, 1) := by decide +kernel
theorem dX9_part_168 : decode cX9_part 168 = .ok (.bipush 99, 2) := by decide +kernel
theorem dX9_part_170 : decode cX9_part 170 = .ok (.invokevirtual 185, 3) := by decide +kernel
theorem dX9_part_173 : decode cX9_part 173 = .ok (.putfield 195, 3) := by decide +kernel
theorem dX9_part_176 : decode cX9_part 176 = .ok (.return_, 1) := by decide +kernel
theorem dX9_isWhole_0 : decode cX9_isWhole 0 = .ok (.aload_n 0, 1) := by decide +kernel
theorem dX9_isWhole_1 : decode cX9_isWhole 1 = .ok (.iconst 0, 1) := by decide +kernel
theorem dX9_isWhole_2 : decode cX9_isWhole 2 = .ok (.putfield 162, 3) := by decide +kernel
theorem dX9_isWhole_5 : decode cX9_isWhole 5 = .ok (.aload_n 0, 1) := by decide +kernel
theorem dX9_isWhole_6 : decode cX9_isWhole 6 = .ok (.iconst 0, 1) := by decide +kernel
theorem dX9_isWhole_7 : decode cX9_isWhole 7 = .ok (.putfield 165, 3) := by decide +kernel
theorem dX9_isWhole_10 : decode cX9_isWhole 10 = .ok (.iconst 1, 1) := by decide +kernel
theorem dX9_isWhole_11 : decode cX9_isWhole 11 = .ok (.istore_n 1, 1) := by decide +kernel
theorem dX9_isWhole_12 : decode cX9_isWhole 12 = .ok (.iload_n 1, 1) := by decide +kernel
theorem dX9_isWhole_13 : decode cX9_isWhole 13 = .ok (.ifCond .eq 57, 3) := by decide +kernel
theorem dX9_isWhole_16 : decode cX9_isWhole 16 = .ok (.aload_n 0, 1) := by decide +kernel
theorem dX9_isWhole_17 : decode cX9_isWhole 17 = .ok (.invokevirtual 198, 3) := by decide +kernel
theorem dX9_isWhole_20 : decode cX9_isWhole 20 = .ok (.aload_n 0, 1) := by decide +kernel
theorem dX9_isWhole_21 : decode cX9_isWhole 21 = .ok (.getfield 165, 3) := by decide +kernel
theorem dX9_isWhole_24 : decode cX9_isWhole 24 = .ok (.ifCond .ne 18, 3) := by decide +kernel
theorem dX9_isWhole_27 : decode cX9_isWhole 27 = .ok (.aload_n 0, 1) := by decide +kernel
theorem dX9_isWhole_28 : decode cX9_isWhole 28 = .ok (.getfield 162, 3) := by decide +kernel
theorem dX9_isWhole_31 : decode cX9_isWhole 31 = .ok (.aload_n 0, 1) := by decide +kernel
theorem dX9_isWhole_32 : decode cX9_isWhole 32 = .ok (.getfield 159, 3) := by decide +kernel
theorem dX9_isWhole_35 : decode cX9_isWhole 35 = .ok (.if_icmp .ge 7, 3) := by decide +kernel
theorem dX9_isWhole_38 : decode cX9_isWhole 38 = .ok (.iconst 1, 1) := by decide +kernel
theorem dX9_isWhole_39 : decode cX9_isWhole 39 = .ok (.goto 4, 3) := by decide +kernel
theorem dX9_isWhole_42 : decode cX9_isWhole 42 = .ok (.iconst 0, 1) := by decide +kernel
theorem dX9_isWhole_43 : decode cX9_isWhole 43 = .ok (.istore_n 1, 1) := by decide +kernel
theorem dX9_isWhole_44 : decode cX9_isWhole 44 = .ok (.iload_n 1, 1) := by decide +kernel
theorem dX9_isWhole_45 : decode cX9_isWhole 45 = .ok (.ifCond .eq (-33), 3) := by decide +kernel
theorem dX9_isWhole_48 : decode cX9_isWhole 48 = .ok (.aload_n 0, 1) := by decide +kernel
theorem dX9_isWhole_49 : decode cX9_isWhole 49 = .ok (.bipush 59, 2) := by decide +kernel
theorem dX9_isWhole_51 : decode cX9_isWhole 51 = .ok (.invokevirtual 181, 3) := by decide +kernel
theorem dX9_isWhole_54 : decode cX9_isWhole 54 = .ok (.aload_n 0, 1) := by decide +kernel
theorem dX9_isWhole_55 : decode cX9_isWhole 55 = .ok (.getfield 165, 3) := by decide +kernel
theorem dX9_isWhole_58 : decode cX9_isWhole 58 = .ok (.ifCond .ne 7, 3) := by decide +kernel
theorem dX9_isWhole_61 : decode cX9_isWhole 61 = .ok (.iconst 1, 1) := by decide +kernel
theorem dX9_isWhole_62 : decode cX9_isWhole 62 = .ok (.goto 4, 3) := by decide +kernel
theorem dX9_isWhole_65 : decode cX9_isWhole 65 = .ok (.iconst 0, 1) := by decide +kernel
theorem dX9_isWhole_66 : decode cX9_isWhole 66 = .ok (.istore_n 1, 1) := by decide +kernel
theorem dX9_isWhole_67 : decode cX9_isWhole 67 = .ok (.goto (-55), 3) := by decide +kernel
theorem dX9_isWhole_70 : decode cX9_isWhole 70 = .ok (.aload_n 0, 1) := by decide +kernel
theorem dX9_isWhole_71 : decode cX9_isWhole 71 = .ok (.getfield 165, 3) := by decide +kernel
theorem dX9_isWhole_74 : decode cX9_isWhole 74 = .ok (.ifCond .ne 7, 3) := by decide +kernel
theorem dX9_isWhole_77 : decode cX9_isWhole 77 = .ok (.iconst 1, 1) := by decide +kernel
theorem dX9_isWhole_78 : decode cX9_isWhole 78 = .ok (.goto 4, 3) := by decide +kernel
theorem dX9_isWhole_81 : decode cX9_isWhole 81 = .ok (.iconst 0, 1) := by decide +kernel
theorem dX9_isWhole_82 : decode cX9_isWhole 82 = .ok (.ireturn, 1) := by decide +kernel
theorem dX9_firstError_0 : decode cX9_firstError 0 = .ok (.aload_n 0, 1) := by decide +kernel
theorem dX9_firstError_1 : decode cX9_firstError 1 = .ok (.iconst 0, 1) := by decide +kernel
theorem dX9_firstError_2 : decode cX9_firstError 2 = .ok (.putfield 40, 3) := by decide +kernel
theorem dX9_firstError_5 : decode cX9_firstError 5 = .ok (.aload_n 0, 1) := by decide +kernel
theorem dX9_firstError_6 : decode cX9_firstError 6 = .ok (.invokevirtual 201, 3) := by decide +kernel
theorem dX9_firstError_9 : decode cX9_firstError 9 = .ok (.ifCond .eq 10, 3) := by decide +kernel
theorem dX9_firstError_12 : decode cX9_firstError 12 = .ok (.aload_n 0, 1) := by decide +kernel
theorem dX9_firstError_13 : decode cX9_firstError 13 = .ok (.getfield 159, 3) := by decide +kernel
theorem dX9_firstError_16 : decode cX9_firstError 16 = .ok (.goto 7, 3) := by decide +kernel
theorem dX9_firstError_19 : decode cX9_firstError 19 = .ok (.aload_n 0, 1) := by decide +kernel
theorem dX9_firstError_20 : decode cX9_firstError 20 = .ok (.getfield 162, 3) := by decide +kernel
theorem dX9_firstError_23 : decode cX9_firstError 23 = .ok (.ireturn, 1) := by decide +kernel
theorem dX9_does_0 : decode cX9_does 0 = .ok (.aload_n 0, 1) := by decide +kernel
theorem dX9_does_1 : decode cX9_does 1 = .ok (.getfield 175, 3) := by decide +kernel
theorem dX9_does_4 : decode cX9_does 4 = .ok (.lookupswitch 205 #[(45, 106), (98, 163), (116, 36)], 36) := by decide +kernel
theorem dX9_does_40 : decode cX9_does 40 = .ok (.aload_n 0, 1) := by decide +kernel
theorem dX9_does_41 : decode cX9_does 41 = .ok (.getfield 178, 3) := by decide +kernel
theorem dX9_does_44 : decode cX9_does 44 = .ok (.aload_n 0, 1) := by decide +kernel
theorem dX9_does_45 : decode cX9_does 45 = .ok (.getfield 189, 3) := by decide +kernel
theorem dX9_does_48 : decode cX9_does 48 = .ok (.if_icmp .ne 7, 3) := by decide +kernel
theorem dX9_does_51 : decode cX9_does 51 = .ok (.iconst 4, 1) := by decide +kernel
theorem dX9_does_52 : decode cX9_does 52 = .ok (.goto 31, 3) := by decide +kernel
theorem dX9_does_55 : decode cX9_does 55 = .ok (.aload_n 0, 1) := by decide +kernel
theorem dX9_does_56 : decode cX9_does 56 = .ok (.aload_n 0, 1) := by decide +kernel
theorem dX9_does_57 : decode cX9_does 57 = .ok (.getfield 178, 3) := by decide +kernel
theorem dX9_does_60 : decode cX9_does 60 = .ok (.aload_n 0, 1) := by decide +kernel
theorem dX9_does_61 : decode cX9_does 61 = .ok (.getfield 189, 3) := by decide +kernel
theorem dX9_does_64 : decode cX9_does 64 = .ok (.aload_n 0, 1) := by decide +kernel
theorem dX9_does_65 : decode cX9_does 65 = .ok (.getfield 192, 3) := by decide +kernel
theorem dX9_does_68 : decode cX9_does 68 = .ok (.aload_n 0, 1) := by decide +kernel
theorem dX9_does_69 : decode cX9_does 69 = .ok (.getfield 195, 3) := by decide +kernel
theorem dX9_does_72 : decode cX9_does 72 = .ok (.invokevirtual 124, 3) := by decide +kernel
theorem dX9_does_75 : decode cX9_does 75 = .ok (.ifCond .le 7, 3) := by decide +kernel
theorem dX9_does_78 : decode cX9_does 78 = .ok (.iconst 5, 1) := by decide +kernel
theorem dX9_does_79 : decode cX9_does 79 = .ok (.goto 4, 3) := by decide +kernel
theorem dX9_does_82 : decode cX9_does 82 = .ok (.iconst 0, 1) := by decide +kernel
theorem dX9_does_83 : decode cX9_does 83 = .ok (.istore_n 1, 1) := by decide +kernel
theorem dX9_does_84 : decode cX9_does 84 = .ok (.iload_n 1, 1) := by decide +kernel
theorem dX9_does_85 : decode cX9_does 85 = .ok (.ifCond .ne 23, 3) := by decide +kernel
theorem dX9_does_88 : decode cX9_does 88 = .ok (.aload_n 0, 1) := by decide +kernel
theorem dX9_does_89 : decode cX9_does 89 = .ok (.aload_n 0, 1) := by decide +kernel
theorem dX9_does_90 : decode cX9_does 90 = .ok (.getfield 178, 3) := by decide +kernel
theorem dX9_does_93 : decode cX9_does 93 = .ok (.aload_n 0, 1) := by decide +kernel
theorem dX9_does_94 : decode cX9_does 94 = .ok (.getfield 189, 3) := by decide +kernel
theorem dX9_does_97 : decode cX9_does 97 = .ok (.aload_n 0, 1) := by decide +kernel
theorem dX9_does_98 : decode cX9_does 98 = .ok (.getfield 192, 3) := by decide +kernel
theorem dX9_does_101 : decode cX9_does 101 = .ok (.aload_n 0, 1) := by decide +kernel
theorem dX9_does_102 : decode cX9_does 102 = .ok (.getfield 195, 3) := by decide +kernel
theorem dX9_does_105 : decode cX9_does 105 = .ok (.invokevirtual 104, 3) := by decide +kernel
theorem dX9_does_108 : decode cX9_does 108 = .ok (.iload_n 1, 1) := by decide +kernel
theorem dX9_does_109 : decode cX9_does 109 = .ok (.ireturn, 1) := by decide +kernel
theorem dX9_does_110 : decode cX9_does 110 = .ok (.aload_n 0, 1) := by decide +kernel
theorem dX9_does_111 : decode cX9_does 111 = .ok (.getfield 178, 3) := by decide +kernel
theorem dX9_does_114 : decode cX9_does 114 = .ok (.aload_n 0, 1) := by decide +kernel
theorem dX9_does_115 : decode cX9_does 115 = .ok (.getfield 189, 3) := by decide +kernel
theorem dX9_does_118 : decode cX9_does 118 = .ok (.if_icmp .ne 7, 3) := by decide +kernel
theorem dX9_does_121 : decode cX9_does 121 = .ok (.iconst 4, 1) := by decide +kernel
theorem dX9_does_122 : decode cX9_does 122 = .ok (.goto 24, 3) := by decide +kernel
theorem dX9_does_125 : decode cX9_does 125 = .ok (.aload_n 0, 1) := by decide +kernel
theorem dX9_does_126 : decode cX9_does 126 = .ok (.aload_n 0, 1) := by decide +kernel
theorem dX9_does_127 : decode cX9_does 127 = .ok (.getfield 178, 3) := by decide +kernel
theorem dX9_does_130 : decode cX9_does 130 = .ok (.aload_n 0, 1) := by decide +kernel
theorem dX9_does_131 : decode cX9_does 131 = .ok (.getfield 189, 3) := by decide +kernel
theorem dX9_does_134 : decode cX9_does 134 = .ok (.invokevirtual 66, 3) := by decide +kernel
theorem dX9_does_137 : decode cX9_does 137 = .ok (.ifCond .eq 7, 3) := by decide +kernel
theorem dX9_does_140 : decode cX9_does 140 = .ok (.iconst 0, 1) := by decide +kernel
theorem dX9_does_141 : decode cX9_does 141 = .ok (.goto 5, 3) := by decide +kernel
theorem dX9_does_144 : decode cX9_does 144 = .ok (.bipush 6, 2) := by decide +kernel
theorem dX9_does_146 : decode cX9_does 146 = .ok (.istore_n 1, 1) := by decide +kernel
theorem dX9_does_147 : decode cX9_does 147 = .ok (.iload_n 1, 1) := by decide +kernel
theorem dX9_does_148 : decode cX9_does 148 = .ok (.ifCond .ne 17, 3) := by decide +kernel
theorem dX9_does_151 : decode cX9_does 151 = .ok (.aload_n 0, 1) := by decide +kernel
theorem dX9_does_152 : decode cX9_does 152 = .ok (.aload_n 0, 1) := by decide +kernel
theorem dX9_does_153 : decode cX9_does 153 = .ok (.getfield 178, 3) := by decide +kernel
theorem dX9_does_156 : decode cX9_does 156 = .ok (.aload_n 0, 1) := by decide +kernel
theorem dX9_does_157 : decode cX9_does 157 = .ok (.getfield 189, 3) := by decide +kernel
theorem dX9_does_160 : decode cX9_does 160 = .ok (.iconst 0, 1) := by decide +kernel
theorem dX9_does_161 : decode cX9_does 161 = .ok (.iconst 0, 1) := by decide +kernel
theorem dX9_does_162 : decode cX9_does 162 = .ok (.invokevirtual 104, 3) := by decide +kernel
theorem dX9_does_165 : decode cX9_does 165 = .ok (.iload_n 1, 1) := by decide +kernel
theorem dX9_does_166 : decode cX9_does 166 = .ok (.ireturn, 1) := by decide +kernel
theorem dX9_does_167 : decode cX9_does 167 = .ok (.aload_n 0, 1) := by decide +kernel
theorem dX9_does_168 : decode cX9_does 168 = .ok (.getfield 7, 3) := by decide +kernel
theorem dX9_does_171 : decode cX9_does 171 = .ok (.bipush 60, 2) := by decide +kernel
theorem dX9_does_173 : decode cX9_does 173 = .ok (.iaload, 1) := by decide +kernel
theorem dX9_does_174 : decode cX9_does 174 = .ok (.bipush 8, 2) := by decide +kernel
theorem dX9_does_176 : decode cX9_does 176 = .ok (.if_icmp .ne 8, 3) := by decide +kernel
theorem dX9_does_179 : decode cX9_does 179 = .ok (.bipush 8, 2) := by decide +kernel
theorem dX9_does_181 : decode cX9_does 181 = .ok (.goto 4, 3) := by decide +kernel
theorem dX9_does_184 : decode cX9_does 184 = .ok (.iconst 0, 1) := by decide +kernel
theorem dX9_does_185 : decode cX9_does 185 = .ok (.istore_n 1, 1) := by decide +kernel
theorem dX9_does_186 : decode cX9_does 186 = .ok (.iload_n 1, 1) := by decide +kernel
theorem dX9_does_187 : decode cX9_does 187 = .ok (.ifCond .ne 18, 3) := by decide +kernel
theorem dX9_does_190 : decode cX9_does 190 = .ok (.aload_n 0, 1) := by decide +kernel
theorem dX9_does_191 : decode cX9_does 191 = .ok (.aload_n 0, 1) := by decide +kernel
theorem dX9_does_192 : decode cX9_does 192 = .ok (.getfield 178, 3) := by decide +kernel
theorem dX9_does_195 : decode cX9_does 195 = .ok (.aload_n 0, 1) := by decide +kernel
theorem dX9_does_196 : decode cX9_does 196 = .ok (.getfield 189, 3) := by decide +kernel
theorem dX9_does_199 : decode cX9_does 199 = .ok (.invokevirtual 139, 3) := by decide +kernel
theorem dX9_does_202 : decode cX9_does 202 = .ok (.goto 4, 3) := by decide +kernel
theorem dX9_does_205 : decode cX9_does 205 = .ok (.iconst (-1), 1) := by decide +kernel
theorem dX9_does_206 : decode cX9_does 206 = .ok (.istore_n 2, 1) := by decide +kernel
theorem dX9_does_207 : decode cX9_does 207 = .ok (.iload_n 1, 1) := by decide +kernel
theorem dX9_does_208 : decode cX9_does 208 = .ok (.ireturn, 1) := by decide +kernel
theorem dX9_does_209 : decode cX9_does 209 = .ok (.aload_n 0, 1) := by decide +kernel
theorem dX9_does_210 : decode cX9_does 210 = .ok (.aload_n 0, 1) := by decide +kernel
theorem dX9_does_211 : decode cX9_does 211 = .ok (.getfield 178, 3) := by decide +kernel
theorem dX9_does_214 : decode cX9_does 214 = .ok (.invokevirtual 150, 3) := by decide +kernel
theorem dX9_does_217 : decode cX9_does 217 = .ok (.ifCond .eq 18, 3) := by decide +kernel
theorem dX9_does_220 : decode cX9_does 220 = .ok (.aload_n 0, 1) := by decide +kernel
theorem dX9_does_221 : decode cX9_does 221 = .ok (.aload_n 0, 1) := by decide +kernel
theorem dX9_does_222 : decode cX9_does 222 = .ok (.getfield 178, 3) := by decide +kernel
theorem dX9_does_225 : decode cX9_does 225 = .ok (.aload_n 0, 1) := by decide +kernel
theorem dX9_does_226 : decode cX9_does 226 = .ok (.getfield 189, 3) := by decide +kernel
theorem dX9_does_229 : decode cX9_does 229 = .ok (.invokevirtual 153, 3) := by decide +kernel
theorem dX9_does_232 : decode cX9_does 232 = .ok (.goto 5, 3) := by decide +kernel
theorem dX9_does_235 : decode cX9_does 235 = .ok (.bipush 7, 2) := by decide +kernel
theorem dX9_does_237 : decode cX9_does 237 = .ok (.istore_n 1, 1) := by decide +kernel
theorem dX9_does_238 : decode cX9_does 238 = .ok (.iload_n 1, 1) := by decide +kernel
theorem dX9_does_239 : decode cX9_does 239 = .ok (.ifCond .ne 18, 3) := by decide +kernel
theorem dX9_does_242 : decode cX9_does 242 = .ok (.aload_n 0, 1) := by decide +kernel
theorem dX9_does_243 : decode cX9_does 243 = .ok (.aload_n 0, 1) := by decide +kernel
theorem dX9_does_244 : decode cX9_does 244 = .ok (.getfield 178, 3) := by decide +kernel
theorem dX9_does_247 : decode cX9_does 247 = .ok (.aload_n 0, 1) := by decide +kernel
theorem dX9_does_248 : decode cX9_does 248 = .ok (.getfield 189, 3) := by decide +kernel
theorem dX9_does_251 : decode cX9_does 251 = .ok (.invokevirtual 156, 3) := by decide +kernel
theorem dX9_does_254 : decode cX9_does 254 = .ok (.goto 4, 3) := by decide +kernel
theorem dX9_does_257 : decode cX9_does 257 = .ok (.iconst (-1), 1) := by decide +kernel
theorem dX9_does_258 : decode cX9_does 258 = .ok (.istore_n 3, 1) := by decide +kernel
theorem dX9_does_259 : decode cX9_does 259 = .ok (.iload_n 1, 1) := by decide +kernel
theorem dX9_does_260 : decode cX9_does 260 = .ok (.ireturn, 1) := by decide +kernel
theorem dX9_work_0 : decode cX9_work 0 = .ok (.aload_n 0, 1) := by decide +kernel
theorem dX9_work_1 : decode cX9_work 1 = .ok (.aload_n 0, 1) := by decide +kernel
theorem dX9_work_2 : decode cX9_work 2 = .ok (.invokevirtual 201, 3) := by decide +kernel
theorem dX9_work_5 : decode cX9_work 5 = .ok (.ifCond .eq 7, 3) := by decide +kernel
theorem dX9_work_8 : decode cX9_work 8 = .ok (.iconst 0, 1) := by decide +kernel
theorem dX9_work_9 : decode cX9_work 9 = .ok (.goto 4, 3) := by decide +kernel
theorem dX9_work_12 : decode cX9_work 12 = .ok (.iconst 1, 1) := by decide +kernel
theorem dX9_work_13 : decode cX9_work 13 = .ok (.invokevirtual 111, 3) := by decide +kernel
theorem dX9_work_16 : decode cX9_work 16 = .ok (.ifCond .eq 5, 3) := by decide +kernel
theorem dX9_work_19 : decode cX9_work 19 = .ok (.iconst 0, 1) := by decide +kernel
theorem dX9_work_20 : decode cX9_work 20 = .ok (.ireturn, 1) := by decide +kernel
theorem dX9_work_21 : decode cX9_work 21 = .ok (.aload_n 0, 1) := by decide +kernel
theorem dX9_work_22 : decode cX9_work 22 = .ok (.invokevirtual 114, 3) := by decide +kernel
theorem dX9_work_25 : decode cX9_work 25 = .ok (.iconst 0, 1) := by decide +kernel
theorem dX9_work_26 : decode cX9_work 26 = .ok (.istore_n 1, 1) := by decide +kernel
theorem dX9_work_27 : decode cX9_work 27 = .ok (.iconst 0, 1) := by decide +kernel
theorem dX9_work_28 : decode cX9_work 28 = .ok (.istore_n 2, 1) := by decide +kernel
theorem dX9_work_29 : decode cX9_work 29 = .ok (.aload_n 0, 1) := by decide +kernel
theorem dX9_work_30 : decode cX9_work 30 = .ok (.iconst 0, 1) := by decide +kernel
theorem dX9_work_31 : decode cX9_work 31 = .ok (.putfield 162, 3) := by decide +kernel
theorem dX9_work_34 : decode cX9_work 34 = .ok (.iload_n 2, 1) := by decide +kernel
theorem dX9_work_35 : decode cX9_work 35 = .ok (.ifCond .ne 48, 3) := by decide +kernel
theorem dX9_work_38 : decode cX9_work 38 = .ok (.aload_n 0, 1) := by decide +kernel
theorem dX9_work_39 : decode cX9_work 39 = .ok (.getfield 162, 3) := by decide +kernel
theorem dX9_work_42 : decode cX9_work 42 = .ok (.aload_n 0, 1) := by decide +kernel
theorem dX9_work_43 : decode cX9_work 43 = .ok (.getfield 159, 3) := by decide +kernel
theorem dX9_work_46 : decode cX9_work 46 = .ok (.if_icmp .ge 37, 3) := by decide +kernel
theorem dX9_work_49 : decode cX9_work 49 = .ok (.aload_n 0, 1) := by decide +kernel
theorem dX9_work_50 : decode cX9_work 50 = .ok (.invokevirtual 198, 3) := by decide +kernel
theorem dX9_work_53 : decode cX9_work 53 = .ok (.aload_n 0, 1) := by decide +kernel
theorem dX9_work_54 : decode cX9_work 54 = .ok (.dup, 1) := by decide +kernel
theorem dX9_work_55 : decode cX9_work 55 = .ok (.getfield 162, 3) := by decide +kernel
theorem dX9_work_58 : decode cX9_work 58 = .ok (.iconst 1, 1) := by decide +kernel
theorem dX9_work_59 : decode cX9_work 59 = .ok (.iadd, 1) := by decide +kernel
theorem dX9_work_60 : decode cX9_work 60 = .ok (.putfield 162, 3) := by decide +kernel
theorem dX9_work_63 : decode cX9_work 63 = .ok (.aload_n 0, 1) := by decide +kernel
theorem dX9_work_64 : decode cX9_work 64 = .ok (.invokevirtual 205, 3) := by decide +kernel
theorem dX9_work_67 : decode cX9_work 67 = .ok (.istore_n 2, 1) := by decide +kernel
theorem dX9_work_68 : decode cX9_work 68 = .ok (.iload_n 1, 1) := by decide +kernel
theorem dX9_work_69 : decode cX9_work 69 = .ok (.iload_n 2, 1) := by decide +kernel
theorem dX9_work_70 : decode cX9_work 70 = .ok (.ifCond .ne 7, 3) := by decide +kernel
theorem dX9_work_73 : decode cX9_work 73 = .ok (.iconst 1, 1) := by decide +kernel
theorem dX9_work_74 : decode cX9_work 74 = .ok (.goto 4, 3) := by decide +kernel
theorem dX9_work_77 : decode cX9_work 77 = .ok (.iconst 0, 1) := by decide +kernel
theorem dX9_work_78 : decode cX9_work 78 = .ok (.iadd, 1) := by decide +kernel
theorem dX9_work_79 : decode cX9_work 79 = .ok (.istore_n 1, 1) := by decide +kernel
theorem dX9_work_80 : decode cX9_work 80 = .ok (.goto (-46), 3) := by decide +kernel
theorem dX9_work_83 : decode cX9_work 83 = .ok (.aload_n 0, 1) := by decide +kernel
theorem dX9_work_84 : decode cX9_work 84 = .ok (.getfield 7, 3) := by decide +kernel
theorem dX9_work_87 : decode cX9_work 87 = .ok (.bipush 63, 2) := by decide +kernel
theorem dX9_work_89 : decode cX9_work 89 = .ok (.iload_n 2, 1) := by decide +kernel
theorem dX9_work_90 : decode cX9_work 90 = .ok (.ifCond .ne 7, 3) := by decide +kernel
theorem dX9_work_93 : decode cX9_work 93 = .ok (.iconst 0, 1) := by decide +kernel
theorem dX9_work_94 : decode cX9_work 94 = .ok (.goto 6, 3) := by decide +kernel
theorem dX9_work_97 : decode cX9_work 97 = .ok (.iload_n 1, 1) := by decide +kernel
theorem dX9_work_98 : decode cX9_work 98 = .ok (.iconst 1, 1) := by decide +kernel
theorem dX9_work_99 : decode cX9_work 99 = .ok (.iadd, 1) := by decide +kernel
theorem dX9_work_100 : decode cX9_work 100 = .ok (.iastore, 1) := by decide +kernel
theorem dX9_work_101 : decode cX9_work 101 = .ok (.aload_n 0, 1) := by decide +kernel
theorem dX9_work_102 : decode cX9_work 102 = .ok (.getfield 7, 3) := by decide +kernel
theorem dX9_work_105 : decode cX9_work 105 = .ok (.bipush 64, 2) := by decide +kernel
theorem dX9_work_107 : decode cX9_work 107 = .ok (.iload_n 2, 1) := by decide +kernel
theorem dX9_work_108 : decode cX9_work 108 = .ok (.iastore, 1) := by decide +kernel
theorem dX9_work_109 : decode cX9_work 109 = .ok (.aload_n 0, 1) := by decide +kernel
theorem dX9_work_110 : decode cX9_work 110 = .ok (.iconst 0, 1) := by decide +kernel
theorem dX9_work_111 : decode cX9_work 111 = .ok (.putfield 159, 3) := by decide +kernel
theorem dX9_work_114 : decode cX9_work 114 = .ok (.iload_n 1, 1) := by decide +kernel
theorem dX9_work_115 : decode cX9_work 115 = .ok (.ireturn, 1) := by decide +kernel
theorem dX9_stop_0 : decode cX9_stop 0 = .ok (.aload_n 0, 1) := by decide +kernel
theorem dX9_stop_1 : decode cX9_stop 1 = .ok (.getfield 7, 3) := by decide +kernel
theorem dX9_stop_4 : decode cX9_stop 4 = .ok (.bipush 63, 2) := by decide +kernel
theorem dX9_stop_6 : decode cX9_stop 6 = .ok (.iaload, 1) := by decide +kernel
theorem dX9_stop_7 : decode cX9_stop 7 = .ok (.ifCond .ne 7, 3) := by decide +kernel
theorem dX9_stop_10 : decode cX9_stop 10 = .ok (.iconst (-1), 1) := by decide +kernel
theorem dX9_stop_11 : decode cX9_stop 11 = .ok (.goto 26, 3) := by decide +kernel
theorem dX9_stop_14 : decode cX9_stop 14 = .ok (.iload_n 1, 1) := by decide +kernel
theorem dX9_stop_15 : decode cX9_stop 15 = .ok (.ifCond .ne 15, 3) := by decide +kernel
theorem dX9_stop_18 : decode cX9_stop 18 = .ok (.aload_n 0, 1) := by decide +kernel
theorem dX9_stop_19 : decode cX9_stop 19 = .ok (.getfield 7, 3) := by decide +kernel
theorem dX9_stop_22 : decode cX9_stop 22 = .ok (.bipush 63, 2) := by decide +kernel
theorem dX9_stop_24 : decode cX9_stop 24 = .ok (.iaload, 1) := by decide +kernel
theorem dX9_stop_25 : decode cX9_stop 25 = .ok (.iconst 1, 1) := by decide +kernel
theorem dX9_stop_26 : decode cX9_stop 26 = .ok (.isub, 1) := by decide +kernel
theorem dX9_stop_27 : decode cX9_stop 27 = .ok (.goto 10, 3) := by decide +kernel
theorem dX9_stop_30 : decode cX9_stop 30 = .ok (.aload_n 0, 1) := by decide +kernel
theorem dX9_stop_31 : decode cX9_stop 31 = .ok (.getfield 7, 3) := by decide +kernel
theorem dX9_stop_34 : decode cX9_stop 34 = .ok (.bipush 64, 2) := by decide +kernel
theorem dX9_stop_36 : decode cX9_stop 36 = .ok (.iaload, 1) := by decide +kernel
theorem dX9_stop_37 : decode cX9_stop 37 = .ok (.ireturn, 1) := by decide +kernel
theorem dX9_stopped_0 : decode cX9_stopped 0 = .ok (.aload_n 0, 1) := by decide +kernel
theorem dX9_stopped_1 : decode cX9_stopped 1 = .ok (.iload_n 1, 1) := by decide +kernel
theorem dX9_stopped_2 : decode cX9_stopped 2 = .ok (.iconst 0, 1) := by decide +kernel
theorem dX9_stopped_3 : decode cX9_stopped 3 = .ok (.iconst 1, 1) := by decide +kernel
theorem dX9_stopped_4 : decode cX9_stopped 4 = .ok (.invokestatic 44, 3) := by decide +kernel
theorem dX9_stopped_7 : decode cX9_stopped 7 = .ok (.ifCond .eq 7, 3) := by decide +kernel
theorem dX9_stopped_10 : decode cX9_stopped 10 = .ok (.iconst 0, 1) := by decide +kernel
theorem dX9_stopped_11 : decode cX9_stopped 11 = .ok (.goto 4, 3) := by decide +kernel
theorem dX9_stopped_14 : decode cX9_stopped 14 = .ok (.iconst 1, 1) := by decide +kernel
theorem dX9_stopped_15 : decode cX9_stopped 15 = .ok (.invokevirtual 111, 3) := by decide +kernel
theorem dX9_stopped_18 : decode cX9_stopped 18 = .ok (.ifCond .eq 5, 3) := by decide +kernel
theorem dX9_stopped_21 : decode cX9_stopped 21 = .ok (.iconst 0, 1) := by decide +kernel
theorem dX9_stopped_22 : decode cX9_stopped 22 = .ok (.ireturn, 1) := by decide +kernel
theorem dX9_stopped_23 : decode cX9_stopped 23 = .ok (.aload_n 0, 1) := by decide +kernel
theorem dX9_stopped_24 : decode cX9_stopped 24 = .ok (.iload_n 1, 1) := by decide +kernel
theorem dX9_stopped_25 : decode cX9_stopped 25 = .ok (.invokevirtual 208, 3) := by decide +kernel
theorem dX9_stopped_28 : decode cX9_stopped 28 = .ok (.ireturn, 1) := by decide +kernel
theorem dX9_undo_0 : decode cX9_undo 0 = .ok (.aload_n 0, 1) := by decide +kernel
theorem dX9_undo_1 : decode cX9_undo 1 = .ok (.aload_n 0, 1) := by decide +kernel
theorem dX9_undo_2 : decode cX9_undo 2 = .ok (.getfield 48, 3) := by decide +kernel
theorem dX9_undo_5 : decode cX9_undo 5 = .ok (.ifCond .ne 7, 3) := by decide +kernel
theorem dX9_undo_8 : decode cX9_undo 8 = .ok (.iconst 1, 1) := by decide +kernel
theorem dX9_undo_9 : decode cX9_undo 9 = .ok (.goto 4, 3) := by decide +kernel
theorem dX9_undo_12 : decode cX9_undo 12 = .ok (.iconst 0, 1) := by decide +kernel
theorem dX9_undo_13 : decode cX9_undo 13 = .ok (.invokevirtual 111, 3) := by decide +kernel
theorem dX9_undo_16 : decode cX9_undo 16 = .ok (.ifCond .eq 5, 3) := by decide +kernel
theorem dX9_undo_19 : decode cX9_undo 19 = .ok (.iconst 0, 1) := by decide +kernel
theorem dX9_undo_20 : decode cX9_undo 20 = .ok (.ireturn, 1) := by decide +kernel
theorem dX9_undo_21 : decode cX9_undo 21 = .ok (.aload_n 0, 1) := by decide +kernel
theorem dX9_undo_22 : decode cX9_undo 22 = .ok (.dup, 1) := by decide +kernel
theorem dX9_undo_23 : decode cX9_undo 23 = .ok (.getfield 48, 3) := by decide +kernel
theorem dX9_undo_26 : decode cX9_undo 26 = .ok (.iconst 1, 1) := by decide +kernel
theorem dX9_undo_27 : decode cX9_undo 27 = .ok (.isub, 1) := by decide +kernel
theorem dX9_undo_28 : decode cX9_undo 28 = .ok (.putfield 48, 3) := by decide +kernel
theorem dX9_undo_31 : decode cX9_undo 31 = .ok (.iconst 0, 1) := by decide +kernel
theorem dX9_undo_32 : decode cX9_undo 32 = .ok (.istore_n 1, 1) := by decide +kernel
theorem dX9_undo_33 : decode cX9_undo 33 = .ok (.iload_n 1, 1) := by decide +kernel
theorem dX9_undo_34 : decode cX9_undo 34 = .ok (.bipush 65, 2) := by decide +kernel
theorem dX9_undo_36 : decode cX9_undo 36 = .ok (.if_icmp .ge 29, 3) := by decide +kernel
theorem dX9_undo_39 : decode cX9_undo 39 = .ok (.aload_n 0, 1) := by decide +kernel
theorem dX9_undo_40 : decode cX9_undo 40 = .ok (.getfield 7, 3) := by decide +kernel
theorem dX9_undo_43 : decode cX9_undo 43 = .ok (.iload_n 1, 1) := by decide +kernel
theorem dX9_undo_44 : decode cX9_undo 44 = .ok (.aload_n 0, 1) := by decide +kernel
theorem dX9_undo_45 : decode cX9_undo 45 = .ok (.getfield 13, 3) := by decide +kernel
theorem dX9_undo_48 : decode cX9_undo 48 = .ok (.bipush 65, 2) := by decide +kernel
theorem dX9_undo_50 : decode cX9_undo 50 = .ok (.aload_n 0, 1) := by decide +kernel
theorem dX9_undo_51 : decode cX9_undo 51 = .ok (.getfield 48, 3) := by decide +kernel
theorem dX9_undo_54 : decode cX9_undo 54 = .ok (.imul, 1) := by decide +kernel
theorem dX9_undo_55 : decode cX9_undo 55 = .ok (.iload_n 1, 1) := by decide +kernel
theorem dX9_undo_56 : decode cX9_undo 56 = .ok (.iadd, 1) := by decide +kernel
theorem dX9_undo_57 : decode cX9_undo 57 = .ok (.iaload, 1) := by decide +kernel
theorem dX9_undo_58 : decode cX9_undo 58 = .ok (.iastore, 1) := by decide +kernel
theorem dX9_undo_59 : decode cX9_undo 59 = .ok (.iinc 1 1, 3) := by decide +kernel
theorem dX9_undo_62 : decode cX9_undo 62 = .ok (.goto (-29), 3) := by decide +kernel
theorem dX9_undo_65 : decode cX9_undo 65 = .ok (.aload_n 0, 1) := by decide +kernel
theorem dX9_undo_66 : decode cX9_undo 66 = .ok (.getfield 48, 3) := by decide +kernel
theorem dX9_undo_69 : decode cX9_undo 69 = .ok (.ireturn, 1) := by decide +kernel
theorem dX9_keep_0 : decode cX9_keep 0 = .ok (.aload_n 0, 1) := by decide +kernel
theorem dX9_keep_1 : decode cX9_keep 1 = .ok (.iconst 0, 1) := by decide +kernel
theorem dX9_keep_2 : decode cX9_keep 2 = .ok (.putfield 40, 3) := by decide +kernel
theorem dX9_keep_5 : decode cX9_keep 5 = .ok (.iconst 0, 1) := by decide +kernel
theorem dX9_keep_6 : decode cX9_keep 6 = .ok (.istore_n 1, 1) := by decide +kernel
theorem dX9_keep_7 : decode cX9_keep 7 = .ok (.iload_n 1, 1) := by decide +kernel
theorem dX9_keep_8 : decode cX9_keep 8 = .ok (.bipush 65, 2) := by decide +kernel
theorem dX9_keep_10 : decode cX9_keep 10 = .ok (.if_icmp .ge 21, 3) := by decide +kernel
theorem dX9_keep_13 : decode cX9_keep 13 = .ok (.aload_n 0, 1) := by decide +kernel
theorem dX9_keep_14 : decode cX9_keep 14 = .ok (.getfield 16, 3) := by decide +kernel
theorem dX9_keep_17 : decode cX9_keep 17 = .ok (.iload_n 1, 1) := by decide +kernel
theorem dX9_keep_18 : decode cX9_keep 18 = .ok (.aload_n 0, 1) := by decide +kernel
theorem dX9_keep_19 : decode cX9_keep 19 = .ok (.getfield 7, 3) := by decide +kernel
theorem dX9_keep_22 : decode cX9_keep 22 = .ok (.iload_n 1, 1) := by decide +kernel
theorem dX9_keep_23 : decode cX9_keep 23 = .ok (.iaload, 1) := by decide +kernel
theorem dX9_keep_24 : decode cX9_keep 24 = .ok (.iastore, 1) := by decide +kernel
theorem dX9_keep_25 : decode cX9_keep 25 = .ok (.iinc 1 1, 3) := by decide +kernel
theorem dX9_keep_28 : decode cX9_keep 28 = .ok (.goto (-21), 3) := by decide +kernel
theorem dX9_keep_31 : decode cX9_keep 31 = .ok (.aload_n 0, 1) := by decide +kernel
theorem dX9_keep_32 : decode cX9_keep 32 = .ok (.iconst 1, 1) := by decide +kernel
theorem dX9_keep_33 : decode cX9_keep 33 = .ok (.putfield 211, 3) := by decide +kernel
theorem dX9_keep_36 : decode cX9_keep 36 = .ok (.aload_n 0, 1) := by decide +kernel
theorem dX9_keep_37 : decode cX9_keep 37 = .ok (.invokevirtual 214, 3) := by decide +kernel
theorem dX9_keep_40 : decode cX9_keep 40 = .ok (.ireturn, 1) := by decide +kernel
theorem dX9_restore_0 : decode cX9_restore 0 = .ok (.aload_n 0, 1) := by decide +kernel
theorem dX9_restore_1 : decode cX9_restore 1 = .ok (.aload_n 0, 1) := by decide +kernel
theorem dX9_restore_2 : decode cX9_restore 2 = .ok (.getfield 211, 3) := by decide +kernel
theorem dX9_restore_5 : decode cX9_restore 5 = .ok (.ifCond .eq 7, 3) := by decide +kernel
theorem dX9_restore_8 : decode cX9_restore 8 = .ok (.iconst 0, 1) := by decide +kernel
theorem dX9_restore_9 : decode cX9_restore 9 = .ok (.goto 4, 3) := by decide +kernel
theorem dX9_restore_12 : decode cX9_restore 12 = .ok (.iconst 1, 1) := by decide +kernel
theorem dX9_restore_13 : decode cX9_restore 13 = .ok (.invokevirtual 111, 3) := by decide +kernel
theorem dX9_restore_16 : decode cX9_restore 16 = .ok (.ifCond .eq 5, 3) := by decide +kernel
theorem dX9_restore_19 : decode cX9_restore 19 = .ok (.iconst 0, 1) := by decide +kernel
theorem dX9_restore_20 : decode cX9_restore 20 = .ok (.ireturn, 1) := by decide +kernel
theorem dX9_restore_21 : decode cX9_restore 21 = .ok (.aload_n 0, 1) := by decide +kernel
theorem dX9_restore_22 : decode cX9_restore 22 = .ok (.invokevirtual 114, 3) := by decide +kernel
theorem dX9_restore_25 : decode cX9_restore 25 = .ok (.iconst 0, 1) := by decide +kernel
theorem dX9_restore_26 : decode cX9_restore 26 = .ok (.istore_n 1, 1) := by decide +kernel
theorem dX9_restore_27 : decode cX9_restore 27 = .ok (.iload_n 1, 1) := by decide +kernel
theorem dX9_restore_28 : decode cX9_restore 28 = .ok (.bipush 65, 2) := by decide +kernel
theorem dX9_restore_30 : decode cX9_restore 30 = .ok (.if_icmp .ge 21, 3) := by decide +kernel
theorem dX9_restore_33 : decode cX9_restore 33 = .ok (.aload_n 0, 1) := by decide +kernel
theorem dX9_restore_34 : decode cX9_restore 34 = .ok (.getfield 7, 3) := by decide +kernel
theorem dX9_restore_37 : decode cX9_restore 37 = .ok (.iload_n 1, 1) := by decide +kernel
theorem dX9_restore_38 : decode cX9_restore 38 = .ok (.aload_n 0, 1) := by decide +kernel
theorem dX9_restore_39 : decode cX9_restore 39 = .ok (.getfield 16, 3) := by decide +kernel
theorem dX9_restore_42 : decode cX9_restore 42 = .ok (.iload_n 1, 1) := by decide +kernel
theorem dX9_restore_43 : decode cX9_restore 43 = .ok (.iaload, 1) := by decide +kernel
theorem dX9_restore_44 : decode cX9_restore 44 = .ok (.iastore, 1) := by decide +kernel
theorem dX9_restore_45 : decode cX9_restore 45 = .ok (.iinc 1 1, 3) := by decide +kernel
theorem dX9_restore_48 : decode cX9_restore 48 = .ok (.goto (-21), 3) := by decide +kernel
theorem dX9_restore_51 : decode cX9_restore 51 = .ok (.aload_n 0, 1) := by decide +kernel
theorem dX9_restore_52 : decode cX9_restore 52 = .ok (.invokevirtual 214, 3) := by decide +kernel
theorem dX9_restore_55 : decode cX9_restore 55 = .ok (.ireturn, 1) := by decide +kernel
theorem dX9_ofTable_0 : decode cX9_ofTable 0 = .ok (.iload_n 3, 1) := by decide +kernel
theorem dX9_ofTable_1 : decode cX9_ofTable 1 = .ok (.iconst 2, 1) := by decide +kernel
theorem dX9_ofTable_2 : decode cX9_ofTable 2 = .ok (.if_icmp .ne 12, 3) := by decide +kernel
theorem dX9_ofTable_5 : decode cX9_ofTable 5 = .ok (.aload_n 0, 1) := by decide +kernel
theorem dX9_ofTable_6 : decode cX9_ofTable 6 = .ok (.iload_n 1, 1) := by decide +kernel
theorem dX9_ofTable_7 : decode cX9_ofTable 7 = .ok (.iload_n 2, 1) := by decide +kernel
theorem dX9_ofTable_8 : decode cX9_ofTable 8 = .ok (.invokevirtual 217, 3) := by decide +kernel
theorem dX9_ofTable_11 : decode cX9_ofTable 11 = .ok (.goto 35, 3) := by decide +kernel
theorem dX9_ofTable_14 : decode cX9_ofTable 14 = .ok (.aload_n 0, 1) := by decide +kernel
theorem dX9_ofTable_15 : decode cX9_ofTable 15 = .ok (.iload_n 1, 1) := by decide +kernel
theorem dX9_ofTable_16 : decode cX9_ofTable 16 = .ok (.iload_n 2, 1) := by decide +kernel
theorem dX9_ofTable_17 : decode cX9_ofTable 17 = .ok (.invokevirtual 66, 3) := by decide +kernel
theorem dX9_ofTable_20 : decode cX9_ofTable 20 = .ok (.ifCond .ne 7, 3) := by decide +kernel
theorem dX9_ofTable_23 : decode cX9_ofTable 23 = .ok (.iconst (-1), 1) := by decide +kernel
theorem dX9_ofTable_24 : decode cX9_ofTable 24 = .ok (.goto 22, 3) := by decide +kernel
theorem dX9_ofTable_27 : decode cX9_ofTable 27 = .ok (.iload_n 3, 1) := by decide +kernel
theorem dX9_ofTable_28 : decode cX9_ofTable 28 = .ok (.ifCond .ne 12, 3) := by decide +kernel
theorem dX9_ofTable_31 : decode cX9_ofTable 31 = .ok (.aload_n 0, 1) := by decide +kernel
theorem dX9_ofTable_32 : decode cX9_ofTable 32 = .ok (.iload_n 1, 1) := by decide +kernel
theorem dX9_ofTable_33 : decode cX9_ofTable 33 = .ok (.iload_n 2, 1) := by decide +kernel
theorem dX9_ofTable_34 : decode cX9_ofTable 34 = .ok (.invokevirtual 69, 3) := by decide +kernel
theorem dX9_ofTable_37 : decode cX9_ofTable 37 = .ok (.goto 9, 3) := by decide +kernel
theorem dX9_ofTable_40 : decode cX9_ofTable 40 = .ok (.aload_n 0, 1) := by decide +kernel
theorem dX9_ofTable_41 : decode cX9_ofTable 41 = .ok (.iload_n 1, 1) := by decide +kernel
theorem dX9_ofTable_42 : decode cX9_ofTable 42 = .ok (.iload_n 2, 1) := by decide +kernel
theorem dX9_ofTable_43 : decode cX9_ofTable 43 = .ok (.invokevirtual 72, 3) := by decide +kernel
theorem dX9_ofTable_46 : decode cX9_ofTable 46 = .ok (.ireturn, 1) := by decide +kernel
theorem dX9_badPair_0 : decode cX9_badPair 0 = .ok (.iload_n 0, 1) := by decide +kernel
theorem dX9_badPair_1 : decode cX9_badPair 1 = .ok (.invokestatic 55, 3) := by decide +kernel
theorem dX9_badPair_4 : decode cX9_badPair 4 = .ok (.ifCond .eq 10, 3) := by decide +kernel
theorem dX9_badPair_7 : decode cX9_badPair 7 = .ok (.iload_n 1, 1) := by decide +kernel
theorem dX9_badPair_8 : decode cX9_badPair 8 = .ok (.invokestatic 55, 3) := by decide +kernel
theorem dX9_badPair_11 : decode cX9_badPair 11 = .ok (.ifCond .ne 7, 3) := by decide +kernel
theorem dX9_badPair_14 : decode cX9_badPair 14 = .ok (.iconst 1, 1) := by decide +kernel
theorem dX9_badPair_15 : decode cX9_badPair 15 = .ok (.goto 17, 3) := by decide +kernel
theorem dX9_badPair_18 : decode cX9_badPair 18 = .ok (.iload_n 0, 1) := by decide +kernel
theorem dX9_badPair_19 : decode cX9_badPair 19 = .ok (.iload_n 1, 1) := by decide +kernel
theorem dX9_badPair_20 : decode cX9_badPair 20 = .ok (.if_icmp .eq 11, 3) := by decide +kernel
theorem dX9_badPair_23 : decode cX9_badPair 23 = .ok (.iload_n 2, 1) := by decide +kernel
theorem dX9_badPair_24 : decode cX9_badPair 24 = .ok (.ifCond .eq 7, 3) := by decide +kernel
theorem dX9_badPair_27 : decode cX9_badPair 27 = .ok (.iconst 0, 1) := by decide +kernel
theorem dX9_badPair_28 : decode cX9_badPair 28 = .ok (.goto 4, 3) := by decide +kernel
theorem dX9_badPair_31 : decode cX9_badPair 31 = .ok (.iconst 2, 1) := by decide +kernel
theorem dX9_badPair_32 : decode cX9_badPair 32 = .ok (.ireturn, 1) := by decide +kernel
theorem dX9_tableOf_0 : decode cX9_tableOf 0 = .ok (.aload_n 0, 1) := by decide +kernel
theorem dX9_tableOf_1 : decode cX9_tableOf 1 = .ok (.iload_n 1, 1) := by decide +kernel
theorem dX9_tableOf_2 : decode cX9_tableOf 2 = .ok (.iload_n 2, 1) := by decide +kernel
theorem dX9_tableOf_3 : decode cX9_tableOf 3 = .ok (.iload_n 3, 1) := by decide +kernel
theorem dX9_tableOf_4 : decode cX9_tableOf 4 = .ok (.iconst 0, 1) := by decide +kernel
theorem dX9_tableOf_5 : decode cX9_tableOf 5 = .ok (.iconst 2, 1) := by decide +kernel
theorem dX9_tableOf_6 : decode cX9_tableOf 6 = .ok (.invokestatic 44, 3) := by decide +kernel
theorem dX9_tableOf_9 : decode cX9_tableOf 9 = .ok (.invokestatic 220, 3) := by decide +kernel
theorem dX9_tableOf_12 : decode cX9_tableOf 12 = .ok (.invokevirtual 111, 3) := by decide +kernel
theorem dX9_tableOf_15 : decode cX9_tableOf 15 = .ok (.ifCond .eq 5, 3) := by decide +kernel
theorem dX9_tableOf_18 : decode cX9_tableOf 18 = .ok (.iconst 0, 1) := by decide +kernel
theorem dX9_tableOf_19 : decode cX9_tableOf 19 = .ok (.ireturn, 1) := by decide +kernel
theorem dX9_tableOf_20 : decode cX9_tableOf 20 = .ok (.aload_n 0, 1) := by decide +kernel
theorem dX9_tableOf_21 : decode cX9_tableOf 21 = .ok (.iload_n 1, 1) := by decide +kernel
theorem dX9_tableOf_22 : decode cX9_tableOf 22 = .ok (.iload_n 2, 1) := by decide +kernel
theorem dX9_tableOf_23 : decode cX9_tableOf 23 = .ok (.iload_n 3, 1) := by decide +kernel
theorem dX9_tableOf_24 : decode cX9_tableOf 24 = .ok (.invokevirtual 224, 3) := by decide +kernel
theorem dX9_tableOf_27 : decode cX9_tableOf 27 = .ok (.ireturn, 1) := by decide +kernel
theorem dX9_told_0 : decode cX9_told 0 = .ok (.aload_n 0, 1) := by decide +kernel
theorem dX9_told_1 : decode cX9_told 1 = .ok (.iload_n 1, 1) := by decide +kernel
theorem dX9_told_2 : decode cX9_told 2 = .ok (.invokevirtual 85, 3) := by decide +kernel
theorem dX9_told_5 : decode cX9_told 5 = .ok (.ldc2_w 227, 3) := by decide +kernel
theorem dX9_told_8 : decode cX9_told 8 = .ok (.ladd, 1) := by decide +kernel
theorem dX9_told_9 : decode cX9_told 9 = .ok (.lstore_n 3, 1) := by decide +kernel
theorem dX9_told_10 : decode cX9_told 10 = .ok (.iload_n 2, 1) := by decide +kernel
theorem dX9_told_11 : decode cX9_told 11 = .ok (.ifCond .ne 12, 3) := by decide +kernel
theorem dX9_told_14 : decode cX9_told 14 = .ok (.aload_n 0, 1) := by decide +kernel
theorem dX9_told_15 : decode cX9_told 15 = .ok (.getfield 22, 3) := by decide +kernel
theorem dX9_told_18 : decode cX9_told 18 = .ok (.iload_n 1, 1) := by decide +kernel
theorem dX9_told_19 : decode cX9_told 19 = .ok (.iaload, 1) := by decide +kernel
theorem dX9_told_20 : decode cX9_told 20 = .ok (.goto 63, 3) := by decide +kernel
theorem dX9_told_23 : decode cX9_told 23 = .ok (.iload_n 2, 1) := by decide +kernel
theorem dX9_told_24 : decode cX9_told 24 = .ok (.iconst 1, 1) := by decide +kernel
theorem dX9_told_25 : decode cX9_told 25 = .ok (.if_icmp .ne 12, 3) := by decide +kernel
theorem dX9_told_28 : decode cX9_told 28 = .ok (.aload_n 0, 1) := by decide +kernel
theorem dX9_told_29 : decode cX9_told 29 = .ok (.getfield 25, 3) := by decide +kernel
theorem dX9_told_32 : decode cX9_told 32 = .ok (.iload_n 1, 1) := by decide +kernel
theorem dX9_told_33 : decode cX9_told 33 = .ok (.iaload, 1) := by decide +kernel
theorem dX9_told_34 : decode cX9_told 34 = .ok (.goto 49, 3) := by decide +kernel
theorem dX9_told_37 : decode cX9_told 37 = .ok (.iload_n 2, 1) := by decide +kernel
theorem dX9_told_38 : decode cX9_told 38 = .ok (.iconst 3, 1) := by decide +kernel
theorem dX9_told_39 : decode cX9_told 39 = .ok (.if_icmp .ne 19, 3) := by decide +kernel
theorem dX9_told_42 : decode cX9_told 42 = .ok (.aload_n 0, 1) := by decide +kernel
theorem dX9_told_43 : decode cX9_told 43 = .ok (.iload_n 1, 1) := by decide +kernel
theorem dX9_told_44 : decode cX9_told 44 = .ok (.invokevirtual 92, 3) := by decide +kernel
theorem dX9_told_47 : decode cX9_told 47 = .ok (.ifCond .eq 7, 3) := by decide +kernel
theorem dX9_told_50 : decode cX9_told 50 = .ok (.iconst 1, 1) := by decide +kernel
theorem dX9_told_51 : decode cX9_told 51 = .ok (.goto 32, 3) := by decide +kernel
theorem dX9_told_54 : decode cX9_told 54 = .ok (.iconst 0, 1) := by decide +kernel
theorem dX9_told_55 : decode cX9_told 55 = .ok (.goto 28, 3) := by decide +kernel
theorem dX9_told_58 : decode cX9_told 58 = .ok (.lload_n 3, 1) := by decide +kernel
theorem dX9_told_59 : decode cX9_told 59 = .ok (.lconst 0, 1) := by decide +kernel
theorem dX9_told_60 : decode cX9_told 60 = .ok (.lcmp, 1) := by decide +kernel
theorem dX9_told_61 : decode cX9_told 61 = .ok (.ifCond .ge 7, 3) := by decide +kernel
theorem dX9_told_64 : decode cX9_told 64 = .ok (.iconst 0, 1) := by decide +kernel
theorem dX9_told_65 : decode cX9_told 65 = .ok (.goto 18, 3) := by decide +kernel
theorem dX9_told_68 : decode cX9_told 68 = .ok (.lload_n 3, 1) := by decide +kernel
theorem dX9_told_69 : decode cX9_told 69 = .ok (.ldc2_w 229, 3) := by decide +kernel
theorem dX9_told_72 : decode cX9_told 72 = .ok (.lcmp, 1) := by decide +kernel
theorem dX9_told_73 : decode cX9_told 73 = .ok (.ifCond .le 8, 3) := by decide +kernel
theorem dX9_told_76 : decode cX9_told 76 = .ok (.ldc 231, 2) := by decide +kernel
theorem dX9_told_78 : decode cX9_told 78 = .ok (.goto 5, 3) := by decide +kernel
theorem dX9_told_81 : decode cX9_told 81 = .ok (.lload_n 3, 1) := by decide +kernel
theorem dX9_told_82 : decode cX9_told 82 = .ok (.l2i, 1) := by decide +kernel
theorem dX9_told_83 : decode cX9_told 83 = .ok (.ireturn, 1) := by decide +kernel
theorem dX9_ring_0 : decode cX9_ring 0 = .ok (.aload_n 0, 1) := by decide +kernel
theorem dX9_ring_1 : decode cX9_ring 1 = .ok (.iload_n 1, 1) := by decide +kernel
theorem dX9_ring_2 : decode cX9_ring 2 = .ok (.ifCond .lt 12, 3) := by decide +kernel
theorem dX9_ring_5 : decode cX9_ring 5 = .ok (.iload_n 2, 1) := by decide +kernel
theorem dX9_ring_6 : decode cX9_ring 6 = .ok (.iconst 0, 1) := by decide +kernel
theorem dX9_ring_7 : decode cX9_ring 7 = .ok (.iconst 3, 1) := by decide +kernel
theorem dX9_ring_8 : decode cX9_ring 8 = .ok (.invokestatic 44, 3) := by decide +kernel
theorem dX9_ring_11 : decode cX9_ring 11 = .ok (.ifCond .ne 7, 3) := by decide +kernel
theorem dX9_ring_14 : decode cX9_ring 14 = .ok (.iconst 1, 1) := by decide +kernel
theorem dX9_ring_15 : decode cX9_ring 15 = .ok (.goto 4, 3) := by decide +kernel
theorem dX9_ring_18 : decode cX9_ring 18 = .ok (.iconst 0, 1) := by decide +kernel
theorem dX9_ring_19 : decode cX9_ring 19 = .ok (.invokevirtual 111, 3) := by decide +kernel
theorem dX9_ring_22 : decode cX9_ring 22 = .ok (.ifCond .eq 5, 3) := by decide +kernel
theorem dX9_ring_25 : decode cX9_ring 25 = .ok (.iconst 0, 1) := by decide +kernel
theorem dX9_ring_26 : decode cX9_ring 26 = .ok (.ireturn, 1) := by decide +kernel
theorem dX9_ring_27 : decode cX9_ring 27 = .ok (.iload_n 1, 1) := by decide +kernel
theorem dX9_ring_28 : decode cX9_ring 28 = .ok (.istore_n 3, 1) := by decide +kernel
theorem dX9_ring_29 : decode cX9_ring 29 = .ok (.iconst 0, 1) := by decide +kernel
theorem dX9_ring_30 : decode cX9_ring 30 = .ok (.istore 4, 2) := by decide +kernel
theorem dX9_ring_32 : decode cX9_ring 32 = .ok (.iload 4, 2) := by decide +kernel
theorem dX9_ring_34 : decode cX9_ring 34 = .ok (.bipush 37, 2) := by decide +kernel
theorem dX9_ring_36 : decode cX9_ring 36 = .ok (.if_icmp .ge 33, 3) := by decide +kernel
theorem dX9_ring_39 : decode cX9_ring 39 = .ok (.aload_n 0, 1) := by decide +kernel
theorem dX9_ring_40 : decode cX9_ring 40 = .ok (.iload 4, 2) := by decide +kernel
theorem dX9_ring_42 : decode cX9_ring 42 = .ok (.invokevirtual 89, 3) := by decide +kernel
theorem dX9_ring_45 : decode cX9_ring 45 = .ok (.ifCond .eq 18, 3) := by decide +kernel
theorem dX9_ring_48 : decode cX9_ring 48 = .ok (.iload_n 3, 1) := by decide +kernel
theorem dX9_ring_49 : decode cX9_ring 49 = .ok (.ifCond .ne 11, 3) := by decide +kernel
theorem dX9_ring_52 : decode cX9_ring 52 = .ok (.aload_n 0, 1) := by decide +kernel
theorem dX9_ring_53 : decode cX9_ring 53 = .ok (.iload 4, 2) := by decide +kernel
theorem dX9_ring_55 : decode cX9_ring 55 = .ok (.iload_n 2, 1) := by decide +kernel
theorem dX9_ring_56 : decode cX9_ring 56 = .ok (.invokevirtual 232, 3) := by decide +kernel
theorem dX9_ring_59 : decode cX9_ring 59 = .ok (.ireturn, 1) := by decide +kernel
theorem dX9_ring_60 : decode cX9_ring 60 = .ok (.iinc 3 (-1), 3) := by decide +kernel
theorem dX9_ring_63 : decode cX9_ring 63 = .ok (.iinc 4 1, 3) := by decide +kernel
theorem dX9_ring_66 : decode cX9_ring 66 = .ok (.goto (-34), 3) := by decide +kernel
theorem dX9_ring_69 : decode cX9_ring 69 = .ok (.iconst (-1), 1) := by decide +kernel
theorem dX9_ring_70 : decode cX9_ring 70 = .ok (.ireturn, 1) := by decide +kernel
theorem dX9_bolted_0 : decode cX9_bolted 0 = .ok (.aload_n 0, 1) := by decide +kernel
theorem dX9_bolted_1 : decode cX9_bolted 1 = .ok (.iload_n 1, 1) := by decide +kernel
theorem dX9_bolted_2 : decode cX9_bolted 2 = .ok (.iload_n 2, 1) := by decide +kernel
theorem dX9_bolted_3 : decode cX9_bolted 3 = .ok (.invokevirtual 142, 3) := by decide +kernel
theorem dX9_bolted_6 : decode cX9_bolted 6 = .ok (.iload_n 2, 1) := by decide +kernel
theorem dX9_bolted_7 : decode cX9_bolted 7 = .ok (.iconst 2, 1) := by decide +kernel
theorem dX9_bolted_8 : decode cX9_bolted 8 = .ok (.if_icmp .ne 8, 3) := by decide +kernel
theorem dX9_bolted_11 : decode cX9_bolted 11 = .ok (.ldc 235, 2) := by decide +kernel
theorem dX9_bolted_13 : decode cX9_bolted 13 = .ok (.goto 4, 3) := by decide +kernel
theorem dX9_bolted_16 : decode cX9_bolted 16 = .ok (.iconst 0, 1) := by decide +kernel
theorem dX9_bolted_17 : decode cX9_bolted 17 = .ok (.iadd, 1) := by decide +kernel
theorem dX9_bolted_18 : decode cX9_bolted 18 = .ok (.ireturn, 1) := by decide +kernel
theorem dX9_boltOf_0 : decode cX9_boltOf 0 = .ok (.aload_n 0, 1) := by decide +kernel
theorem dX9_boltOf_1 : decode cX9_boltOf 1 = .ok (.aload_n 0, 1) := by decide +kernel
theorem dX9_boltOf_2 : decode cX9_boltOf 2 = .ok (.iload_n 1, 1) := by decide +kernel
theorem dX9_boltOf_3 : decode cX9_boltOf 3 = .ok (.invokevirtual 150, 3) := by decide +kernel
theorem dX9_boltOf_6 : decode cX9_boltOf 6 = .ok (.ifCond .ne 7, 3) := by decide +kernel
theorem dX9_boltOf_9 : decode cX9_boltOf 9 = .ok (.iconst 1, 1) := by decide +kernel
theorem dX9_boltOf_10 : decode cX9_boltOf 10 = .ok (.goto 17, 3) := by decide +kernel
theorem dX9_boltOf_13 : decode cX9_boltOf 13 = .ok (.iload_n 2, 1) := by decide +kernel
theorem dX9_boltOf_14 : decode cX9_boltOf 14 = .ok (.iconst 0, 1) := by decide +kernel
theorem dX9_boltOf_15 : decode cX9_boltOf 15 = .ok (.iconst 3, 1) := by decide +kernel
theorem dX9_boltOf_16 : decode cX9_boltOf 16 = .ok (.invokestatic 44, 3) := by decide +kernel
theorem dX9_boltOf_19 : decode cX9_boltOf 19 = .ok (.ifCond .eq 7, 3) := by decide +kernel
theorem dX9_boltOf_22 : decode cX9_boltOf 22 = .ok (.iconst 0, 1) := by decide +kernel
theorem dX9_boltOf_23 : decode cX9_boltOf 23 = .ok (.goto 4, 3) := by decide +kernel
theorem dX9_boltOf_26 : decode cX9_boltOf 26 = .ok (.iconst 2, 1) := by decide +kernel
theorem dX9_boltOf_27 : decode cX9_boltOf 27 = .ok (.invokevirtual 111, 3) := by decide +kernel
theorem dX9_boltOf_30 : decode cX9_boltOf 30 = .ok (.ifCond .eq 5, 3) := by decide +kernel
theorem dX9_boltOf_33 : decode cX9_boltOf 33 = .ok (.iconst 0, 1) := by decide +kernel
theorem dX9_boltOf_34 : decode cX9_boltOf 34 = .ok (.ireturn, 1) := by decide +kernel
theorem dX9_boltOf_35 : decode cX9_boltOf 35 = .ok (.aload_n 0, 1) := by decide +kernel
theorem dX9_boltOf_36 : decode cX9_boltOf 36 = .ok (.iload_n 1, 1) := by decide +kernel
theorem dX9_boltOf_37 : decode cX9_boltOf 37 = .ok (.iload_n 2, 1) := by decide +kernel
theorem dX9_boltOf_38 : decode cX9_boltOf 38 = .ok (.invokevirtual 236, 3) := by decide +kernel
theorem dX9_boltOf_41 : decode cX9_boltOf 41 = .ok (.ireturn, 1) := by decide +kernel
theorem dX9_lengths_0 : decode cX9_lengths 0 = .ok (.iconst 0, 1) := by decide +kernel
theorem dX9_lengths_1 : decode cX9_lengths 1 = .ok (.istore_n 1, 1) := by decide +kernel
theorem dX9_lengths_2 : decode cX9_lengths 2 = .ok (.iconst 0, 1) := by decide +kernel
theorem dX9_lengths_3 : decode cX9_lengths 3 = .ok (.istore_n 2, 1) := by decide +kernel
theorem dX9_lengths_4 : decode cX9_lengths 4 = .ok (.iload_n 2, 1) := by decide +kernel
theorem dX9_lengths_5 : decode cX9_lengths 5 = .ok (.aload_n 0, 1) := by decide +kernel
theorem dX9_lengths_6 : decode cX9_lengths 6 = .ok (.getfield 7, 3) := by decide +kernel
theorem dX9_lengths_9 : decode cX9_lengths 9 = .ok (.bipush 60, 2) := by decide +kernel
theorem dX9_lengths_11 : decode cX9_lengths 11 = .ok (.iaload, 1) := by decide +kernel
theorem dX9_lengths_12 : decode cX9_lengths 12 = .ok (.if_icmp .ge 18, 3) := by decide +kernel
theorem dX9_lengths_15 : decode cX9_lengths 15 = .ok (.iload_n 1, 1) := by decide +kernel
theorem dX9_lengths_16 : decode cX9_lengths 16 = .ok (.aload_n 0, 1) := by decide +kernel
theorem dX9_lengths_17 : decode cX9_lengths 17 = .ok (.iload_n 2, 1) := by decide +kernel
theorem dX9_lengths_18 : decode cX9_lengths 18 = .ok (.iconst 1, 1) := by decide +kernel
theorem dX9_lengths_19 : decode cX9_lengths 19 = .ok (.invokevirtual 142, 3) := by decide +kernel
theorem dX9_lengths_22 : decode cX9_lengths 22 = .ok (.iadd, 1) := by decide +kernel
theorem dX9_lengths_23 : decode cX9_lengths 23 = .ok (.istore_n 1, 1) := by decide +kernel
theorem dX9_lengths_24 : decode cX9_lengths 24 = .ok (.iinc 2 1, 3) := by decide +kernel
theorem dX9_lengths_27 : decode cX9_lengths 27 = .ok (.goto (-23), 3) := by decide +kernel
theorem dX9_lengths_30 : decode cX9_lengths 30 = .ok (.iload_n 1, 1) := by decide +kernel
theorem dX9_lengths_31 : decode cX9_lengths 31 = .ok (.ireturn, 1) := by decide +kernel
theorem dX9_counts_0 : decode cX9_counts 0 = .ok (.iload_n 1, 1) := by decide +kernel
theorem dX9_counts_1 : decode cX9_counts 1 = .ok (.tableswitch 178 0 17 #[87, 92, 97, 102, 115, 128, 136, 141, 152, 160, 160, 160, 178, 178, 178, 178, 178, 173], 87) := by decide +kernel
theorem dX9_counts_88 : decode cX9_counts 88 = .ok (.aload_n 0, 1) := by decide +kernel
theorem dX9_counts_89 : decode cX9_counts 89 = .ok (.invokevirtual 214, 3) := by decide +kernel
theorem dX9_counts_92 : decode cX9_counts 92 = .ok (.ireturn, 1) := by decide +kernel
theorem dX9_counts_93 : decode cX9_counts 93 = .ok (.aload_n 0, 1) := by decide +kernel
theorem dX9_counts_94 : decode cX9_counts 94 = .ok (.invokevirtual 127, 3) := by decide +kernel
theorem dX9_counts_97 : decode cX9_counts 97 = .ok (.ireturn, 1) := by decide +kernel
theorem dX9_counts_98 : decode cX9_counts 98 = .ok (.aload_n 0, 1) := by decide +kernel
theorem dX9_counts_99 : decode cX9_counts 99 = .ok (.invokevirtual 239, 3) := by decide +kernel
theorem dX9_counts_102 : decode cX9_counts 102 = .ok (.ireturn, 1) := by decide +kernel
theorem dX9_counts_103 : decode cX9_counts 103 = .ok (.aload_n 0, 1) := by decide +kernel
theorem dX9_counts_104 : decode cX9_counts 104 = .ok (.invokevirtual 242, 3) := by decide +kernel
theorem dX9_counts_107 : decode cX9_counts 107 = .ok (.ifCond .eq 7, 3) := by decide +kernel
theorem dX9_counts_110 : decode cX9_counts 110 = .ok (.iconst 1, 1) := by decide +kernel
theorem dX9_counts_111 : decode cX9_counts 111 = .ok (.goto 4, 3) := by decide +kernel
theorem dX9_counts_114 : decode cX9_counts 114 = .ok (.iconst 0, 1) := by decide +kernel
theorem dX9_counts_115 : decode cX9_counts 115 = .ok (.ireturn, 1) := by decide +kernel
theorem dX9_counts_116 : decode cX9_counts 116 = .ok (.aload_n 0, 1) := by decide +kernel
theorem dX9_counts_117 : decode cX9_counts 117 = .ok (.invokevirtual 245, 3) := by decide +kernel
theorem dX9_counts_120 : decode cX9_counts 120 = .ok (.ifCond .eq 7, 3) := by decide +kernel
theorem dX9_counts_123 : decode cX9_counts 123 = .ok (.iconst 1, 1) := by decide +kernel
theorem dX9_counts_124 : decode cX9_counts 124 = .ok (.goto 4, 3) := by decide +kernel
theorem dX9_counts_127 : decode cX9_counts 127 = .ok (.iconst 0, 1) := by decide +kernel
theorem dX9_counts_128 : decode cX9_counts 128 = .ok (.ireturn, 1) := by decide +kernel
theorem dX9_counts_129 : decode cX9_counts 129 = .ok (.aload_n 0, 1) := by decide +kernel
theorem dX9_counts_130 : decode cX9_counts 130 = .ok (.getfield 7, 3) := by decide +kernel
theorem dX9_counts_133 : decode cX9_counts 133 = .ok (.bipush 60, 2) := by decide +kernel
theorem dX9_counts_135 : decode cX9_counts 135 = .ok (.iaload, 1) := by decide +kernel
theorem dX9_counts_136 : decode cX9_counts 136 = .ok (.ireturn, 1) := by decide +kernel
theorem dX9_counts_137 : decode cX9_counts 137 = .ok (.aload_n 0, 1) := by decide +kernel
theorem dX9_counts_138 : decode cX9_counts 138 = .ok (.invokevirtual 248, 3) := by decide +kernel
theorem dX9_counts_141 : decode cX9_counts 141 = .ok (.ireturn, 1) := by decide +kernel
theorem dX9_counts_142 : decode cX9_counts 142 = .ok (.aload_n 0, 1) := by decide +kernel
theorem dX9_counts_143 : decode cX9_counts 143 = .ok (.getfield 7, 3) := by decide +kernel
theorem dX9_counts_146 : decode cX9_counts 146 = .ok (.bipush 61, 2) := by decide +kernel
theorem dX9_counts_148 : decode cX9_counts 148 = .ok (.iaload, 1) := by decide +kernel
theorem dX9_counts_149 : decode cX9_counts 149 = .ok (.ldc 251, 2) := by decide +kernel
theorem dX9_counts_151 : decode cX9_counts 151 = .ok (.iadd, 1) := by decide +kernel
theorem dX9_counts_152 : decode cX9_counts 152 = .ok (.ireturn, 1) := by decide +kernel
theorem dX9_counts_153 : decode cX9_counts 153 = .ok (.aload_n 0, 1) := by decide +kernel
theorem dX9_counts_154 : decode cX9_counts 154 = .ok (.getfield 7, 3) := by decide +kernel
theorem dX9_counts_157 : decode cX9_counts 157 = .ok (.bipush 62, 2) := by decide +kernel
theorem dX9_counts_159 : decode cX9_counts 159 = .ok (.iaload, 1) := by decide +kernel
theorem dX9_counts_160 : decode cX9_counts 160 = .ok (.ireturn, 1) := by decide +kernel
theorem dX9_counts_161 : decode cX9_counts 161 = .ok (.aload_n 0, 1) := by decide +kernel
theorem dX9_counts_162 : decode cX9_counts 162 = .ok (.getfield 7, 3) := by decide +kernel
theorem dX9_counts_165 : decode cX9_counts 165 = .ok (.bipush 25, 2) := by decide +kernel
theorem dX9_counts_167 : decode cX9_counts 167 = .ok (.iload_n 1, 1) := by decide +kernel
theorem dX9_counts_168 : decode cX9_counts 168 = .ok (.iadd, 1) := by decide +kernel
theorem dX9_counts_169 : decode cX9_counts 169 = .ok (.bipush 9, 2) := by decide +kernel
theorem dX9_counts_171 : decode cX9_counts 171 = .ok (.isub, 1) := by decide +kernel
theorem dX9_counts_172 : decode cX9_counts 172 = .ok (.iaload, 1) := by decide +kernel
theorem dX9_counts_173 : decode cX9_counts 173 = .ok (.ireturn, 1) := by decide +kernel
theorem dX9_counts_174 : decode cX9_counts 174 = .ok (.aload_n 0, 1) := by decide +kernel
theorem dX9_counts_175 : decode cX9_counts 175 = .ok (.getfield 48, 3) := by decide +kernel
theorem dX9_counts_178 : decode cX9_counts 178 = .ok (.ireturn, 1) := by decide +kernel
theorem dX9_counts_179 : decode cX9_counts 179 = .ok (.aload_n 0, 1) := by decide +kernel
theorem dX9_counts_180 : decode cX9_counts 180 = .ok (.getfield 7, 3) := by decide +kernel
theorem dX9_counts_183 : decode cX9_counts 183 = .ok (.bipush 20, 2) := by decide +kernel
theorem dX9_counts_185 : decode cX9_counts 185 = .ok (.iload_n 1, 1) := by decide +kernel
theorem dX9_counts_186 : decode cX9_counts 186 = .ok (.iadd, 1) := by decide +kernel
theorem dX9_counts_187 : decode cX9_counts 187 = .ok (.bipush 12, 2) := by decide +kernel
theorem dX9_counts_189 : decode cX9_counts 189 = .ok (.isub, 1) := by decide +kernel
theorem dX9_counts_190 : decode cX9_counts 190 = .ok (.iaload, 1) := by decide +kernel
theorem dX9_counts_191 : decode cX9_counts 191 = .ok (.ireturn, 1) := by decide +kernel
theorem dX9_count_0 : decode cX9_count 0 = .ok (.aload_n 0, 1) := by decide +kernel
theorem dX9_count_1 : decode cX9_count 1 = .ok (.iload_n 1, 1) := by decide +kernel
theorem dX9_count_2 : decode cX9_count 2 = .ok (.iconst 0, 1) := by decide +kernel
theorem dX9_count_3 : decode cX9_count 3 = .ok (.bipush 17, 2) := by decide +kernel
theorem dX9_count_5 : decode cX9_count 5 = .ok (.invokestatic 44, 3) := by decide +kernel
theorem dX9_count_8 : decode cX9_count 8 = .ok (.ifCond .eq 7, 3) := by decide +kernel
theorem dX9_count_11 : decode cX9_count 11 = .ok (.iconst 0, 1) := by decide +kernel
theorem dX9_count_12 : decode cX9_count 12 = .ok (.goto 4, 3) := by decide +kernel
theorem dX9_count_15 : decode cX9_count 15 = .ok (.iconst 1, 1) := by decide +kernel
theorem dX9_count_16 : decode cX9_count 16 = .ok (.invokevirtual 111, 3) := by decide +kernel
theorem dX9_count_19 : decode cX9_count 19 = .ok (.ifCond .eq 5, 3) := by decide +kernel
theorem dX9_count_22 : decode cX9_count 22 = .ok (.iconst 0, 1) := by decide +kernel
theorem dX9_count_23 : decode cX9_count 23 = .ok (.ireturn, 1) := by decide +kernel
theorem dX9_count_24 : decode cX9_count 24 = .ok (.aload_n 0, 1) := by decide +kernel
theorem dX9_count_25 : decode cX9_count 25 = .ok (.iload_n 1, 1) := by decide +kernel
theorem dX9_count_26 : decode cX9_count 26 = .ok (.invokevirtual 252, 3) := by decide +kernel
theorem dX9_count_29 : decode cX9_count 29 = .ok (.ireturn, 1) := by decide +kernel
theorem dX9_offBy_0 : decode cX9_offBy 0 = .ok (.aload_n 0, 1) := by decide +kernel
theorem dX9_offBy_1 : decode cX9_offBy 1 = .ok (.iload_n 1, 1) := by decide +kernel
theorem dX9_offBy_2 : decode cX9_offBy 2 = .ok (.iload_n 2, 1) := by decide +kernel
theorem dX9_offBy_3 : decode cX9_offBy 3 = .ok (.iload_n 3, 1) := by decide +kernel
theorem dX9_offBy_4 : decode cX9_offBy 4 = .ok (.iload 4, 2) := by decide +kernel
theorem dX9_offBy_6 : decode cX9_offBy 6 = .ok (.invokestatic 120, 3) := by decide +kernel
theorem dX9_offBy_9 : decode cX9_offBy 9 = .ok (.invokevirtual 111, 3) := by decide +kernel
theorem dX9_offBy_12 : decode cX9_offBy 12 = .ok (.ifCond .eq 5, 3) := by decide +kernel
theorem dX9_offBy_15 : decode cX9_offBy 15 = .ok (.iconst 0, 1) := by decide +kernel
theorem dX9_offBy_16 : decode cX9_offBy 16 = .ok (.ireturn, 1) := by decide +kernel
theorem dX9_offBy_17 : decode cX9_offBy 17 = .ok (.aload_n 0, 1) := by decide +kernel
theorem dX9_offBy_18 : decode cX9_offBy 18 = .ok (.iload_n 1, 1) := by decide +kernel
theorem dX9_offBy_19 : decode cX9_offBy 19 = .ok (.iload_n 2, 1) := by decide +kernel
theorem dX9_offBy_20 : decode cX9_offBy 20 = .ok (.iload_n 3, 1) := by decide +kernel
theorem dX9_offBy_21 : decode cX9_offBy 21 = .ok (.iload 4, 2) := by decide +kernel
theorem dX9_offBy_23 : decode cX9_offBy 23 = .ok (.invokevirtual 124, 3) := by decide +kernel
theorem dX9_offBy_26 : decode cX9_offBy 26 = .ok (.ireturn, 1) := by decide +kernel
theorem dX9_turned_0 : decode cX9_turned 0 = .ok (.aload_n 0, 1) := by decide +kernel
theorem dX9_turned_1 : decode cX9_turned 1 = .ok (.iload_n 1, 1) := by decide +kernel
theorem dX9_turned_2 : decode cX9_turned 2 = .ok (.iload_n 2, 1) := by decide +kernel
theorem dX9_turned_3 : decode cX9_turned 3 = .ok (.iload_n 3, 1) := by decide +kernel
theorem dX9_turned_4 : decode cX9_turned 4 = .ok (.iconst 0, 1) := by decide +kernel
theorem dX9_turned_5 : decode cX9_turned 5 = .ok (.ldc 255, 2) := by decide +kernel
theorem dX9_turned_7 : decode cX9_turned 7 = .ok (.invokestatic 44, 3) := by decide +kernel
theorem dX9_turned_10 : decode cX9_turned 10 = .ok (.invokestatic 220, 3) := by decide +kernel
theorem dX9_turned_13 : decode cX9_turned 13 = .ok (.invokevirtual 111, 3) := by decide +kernel
theorem dX9_turned_16 : decode cX9_turned 16 = .ok (.ifCond .eq 5, 3) := by decide +kernel
theorem dX9_turned_19 : decode cX9_turned 19 = .ok (.iconst 0, 1) := by decide +kernel
theorem dX9_turned_20 : decode cX9_turned 20 = .ok (.ireturn, 1) := by decide +kernel
theorem dX9_turned_21 : decode cX9_turned 21 = .ok (.aload_n 0, 1) := by decide +kernel
theorem dX9_turned_22 : decode cX9_turned 22 = .ok (.iload_n 1, 1) := by decide +kernel
theorem dX9_turned_23 : decode cX9_turned 23 = .ok (.iload_n 2, 1) := by decide +kernel
theorem dX9_turned_24 : decode cX9_turned 24 = .ok (.invokevirtual 66, 3) := by decide +kernel
theorem dX9_turned_27 : decode cX9_turned 27 = .ok (.ifCond .eq 15, 3) := by decide +kernel
theorem dX9_turned_30 : decode cX9_turned 30 = .ok (.aload_n 0, 1) := by decide +kernel
theorem dX9_turned_31 : decode cX9_turned 31 = .ok (.iload_n 1, 1) := by decide +kernel
theorem dX9_turned_32 : decode cX9_turned 32 = .ok (.iload_n 2, 1) := by decide +kernel
theorem dX9_turned_33 : decode cX9_turned 33 = .ok (.iload_n 3, 1) := by decide +kernel
theorem dX9_turned_34 : decode cX9_turned 34 = .ok (.i2l, 1) := by decide +kernel
theorem dX9_turned_35 : decode cX9_turned 35 = .ok (.invokevirtual 133, 3) := by decide +kernel
theorem dX9_turned_38 : decode cX9_turned 38 = .ok (.l2i, 1) := by decide +kernel
theorem dX9_turned_39 : decode cX9_turned 39 = .ok (.goto 4, 3) := by decide +kernel
theorem dX9_turned_42 : decode cX9_turned 42 = .ok (.iconst (-1), 1) := by decide +kernel
theorem dX9_turned_43 : decode cX9_turned 43 = .ok (.ireturn, 1) := by decide +kernel
theorem dX9_leads_0 : decode cX9_leads 0 = .ok (.iload_n 1, 1) := by decide +kernel
theorem dX9_leads_1 : decode cX9_leads 1 = .ok (.iload_n 2, 1) := by decide +kernel
theorem dX9_leads_2 : decode cX9_leads 2 = .ok (.invokestatic 59, 3) := by decide +kernel
theorem dX9_leads_5 : decode cX9_leads 5 = .ok (.ifCond .eq 30, 3) := by decide +kernel
theorem dX9_leads_8 : decode cX9_leads 8 = .ok (.iload_n 1, 1) := by decide +kernel
theorem dX9_leads_9 : decode cX9_leads 9 = .ok (.iload_n 2, 1) := by decide +kernel
theorem dX9_leads_10 : decode cX9_leads 10 = .ok (.iconst 0, 1) := by decide +kernel
theorem dX9_leads_11 : decode cX9_leads 11 = .ok (.invokestatic 51, 3) := by decide +kernel
theorem dX9_leads_14 : decode cX9_leads 14 = .ok (.iload_n 3, 1) := by decide +kernel
theorem dX9_leads_15 : decode cX9_leads 15 = .ok (.if_icmp .ne 20, 3) := by decide +kernel
theorem dX9_leads_18 : decode cX9_leads 18 = .ok (.iload_n 1, 1) := by decide +kernel
theorem dX9_leads_19 : decode cX9_leads 19 = .ok (.iload_n 2, 1) := by decide +kernel
theorem dX9_leads_20 : decode cX9_leads 20 = .ok (.iload_n 2, 1) := by decide +kernel
theorem dX9_leads_21 : decode cX9_leads 21 = .ok (.iconst 1, 1) := by decide +kernel
theorem dX9_leads_22 : decode cX9_leads 22 = .ok (.isub, 1) := by decide +kernel
theorem dX9_leads_23 : decode cX9_leads 23 = .ok (.invokestatic 51, 3) := by decide +kernel
theorem dX9_leads_26 : decode cX9_leads 26 = .ok (.iload 4, 2) := by decide +kernel
theorem dX9_leads_28 : decode cX9_leads 28 = .ok (.if_icmp .ne 7, 3) := by decide +kernel
theorem dX9_leads_31 : decode cX9_leads 31 = .ok (.iconst 1, 1) := by decide +kernel
theorem dX9_leads_32 : decode cX9_leads 32 = .ok (.goto 4, 3) := by decide +kernel
theorem dX9_leads_35 : decode cX9_leads 35 = .ok (.iconst 0, 1) := by decide +kernel
theorem dX9_leads_36 : decode cX9_leads 36 = .ok (.istore 5, 2) := by decide +kernel
theorem dX9_leads_38 : decode cX9_leads 38 = .ok (.iconst 1, 1) := by decide +kernel
theorem dX9_leads_39 : decode cX9_leads 39 = .ok (.istore 6, 2) := by decide +kernel
theorem dX9_leads_41 : decode cX9_leads 41 = .ok (.iload 6, 2) := by decide +kernel
theorem dX9_leads_43 : decode cX9_leads 43 = .ok (.iload_n 2, 1) := by decide +kernel
theorem dX9_leads_44 : decode cX9_leads 44 = .ok (.if_icmp .ge 36, 3) := by decide +kernel
theorem dX9_leads_47 : decode cX9_leads 47 = .ok (.iload 5, 2) := by decide +kernel
theorem dX9_leads_49 : decode cX9_leads 49 = .ok (.ifCond .eq 31, 3) := by decide +kernel
theorem dX9_leads_52 : decode cX9_leads 52 = .ok (.aload_n 0, 1) := by decide +kernel
theorem dX9_leads_53 : decode cX9_leads 53 = .ok (.iload_n 1, 1) := by decide +kernel
theorem dX9_leads_54 : decode cX9_leads 54 = .ok (.iload_n 2, 1) := by decide +kernel
theorem dX9_leads_55 : decode cX9_leads 55 = .ok (.iload 6, 2) := by decide +kernel
theorem dX9_leads_57 : decode cX9_leads 57 = .ok (.iconst 1, 1) := by decide +kernel
theorem dX9_leads_58 : decode cX9_leads 58 = .ok (.isub, 1) := by decide +kernel
theorem dX9_leads_59 : decode cX9_leads 59 = .ok (.invokestatic 51, 3) := by decide +kernel
theorem dX9_leads_62 : decode cX9_leads 62 = .ok (.iload_n 1, 1) := by decide +kernel
theorem dX9_leads_63 : decode cX9_leads 63 = .ok (.iload_n 2, 1) := by decide +kernel
theorem dX9_leads_64 : decode cX9_leads 64 = .ok (.iload 6, 2) := by decide +kernel
theorem dX9_leads_66 : decode cX9_leads 66 = .ok (.invokestatic 51, 3) := by decide +kernel
theorem dX9_leads_69 : decode cX9_leads 69 = .ok (.invokevirtual 66, 3) := by decide +kernel
theorem dX9_leads_72 : decode cX9_leads 72 = .ok (.istore 5, 2) := by decide +kernel
theorem dX9_leads_74 : decode cX9_leads 74 = .ok (.iinc 6 1, 3) := by decide +kernel
theorem dX9_leads_77 : decode cX9_leads 77 = .ok (.goto (-36), 3) := by decide +kernel
theorem dX9_leads_80 : decode cX9_leads 80 = .ok (.iload 5, 2) := by decide +kernel
theorem dX9_leads_82 : decode cX9_leads 82 = .ok (.ireturn, 1) := by decide +kernel
theorem dX9_rounding_0 : decode cX9_rounding 0 = .ok (.iload_n 3, 1) := by decide +kernel
theorem dX9_rounding_1 : decode cX9_rounding 1 = .ok (.i2l, 1) := by decide +kernel
theorem dX9_rounding_2 : decode cX9_rounding 2 = .ok (.lstore 4, 2) := by decide +kernel
theorem dX9_rounding_4 : decode cX9_rounding 4 = .ok (.lconst 0, 1) := by decide +kernel
theorem dX9_rounding_5 : decode cX9_rounding 5 = .ok (.lstore 6, 2) := by decide +kernel
theorem dX9_rounding_7 : decode cX9_rounding 7 = .ok (.iconst 1, 1) := by decide +kernel
theorem dX9_rounding_8 : decode cX9_rounding 8 = .ok (.istore 8, 2) := by decide +kernel
theorem dX9_rounding_10 : decode cX9_rounding 10 = .ok (.iload 8, 2) := by decide +kernel
theorem dX9_rounding_12 : decode cX9_rounding 12 = .ok (.iload_n 2, 1) := by decide +kernel
theorem dX9_rounding_13 : decode cX9_rounding 13 = .ok (.if_icmp .ge 77, 3) := by decide +kernel
theorem dX9_rounding_16 : decode cX9_rounding 16 = .ok (.aload_n 0, 1) := by decide +kernel
theorem dX9_rounding_17 : decode cX9_rounding 17 = .ok (.iload_n 1, 1) := by decide +kernel
theorem dX9_rounding_18 : decode cX9_rounding 18 = .ok (.iload_n 2, 1) := by decide +kernel
theorem dX9_rounding_19 : decode cX9_rounding 19 = .ok (.iload 8, 2) := by decide +kernel
theorem dX9_rounding_21 : decode cX9_rounding 21 = .ok (.iconst 1, 1) := by decide +kernel
theorem dX9_rounding_22 : decode cX9_rounding 22 = .ok (.isub, 1) := by decide +kernel
theorem dX9_rounding_23 : decode cX9_rounding 23 = .ok (.invokestatic 51, 3) := by decide +kernel
theorem dX9_rounding_26 : decode cX9_rounding 26 = .ok (.iload_n 1, 1) := by decide +kernel
theorem dX9_rounding_27 : decode cX9_rounding 27 = .ok (.iload_n 2, 1) := by decide +kernel
theorem dX9_rounding_28 : decode cX9_rounding 28 = .ok (.iload 8, 2) := by decide +kernel
theorem dX9_rounding_30 : decode cX9_rounding 30 = .ok (.invokestatic 51, 3) := by decide +kernel
theorem dX9_rounding_33 : decode cX9_rounding 33 = .ok (.lload 4, 2) := by decide +kernel
theorem dX9_rounding_35 : decode cX9_rounding 35 = .ok (.invokevirtual 147, 3) := by decide +kernel
theorem dX9_rounding_38 : decode cX9_rounding 38 = .ok (.lstore 9, 2) := by decide +kernel
theorem dX9_rounding_40 : decode cX9_rounding 40 = .ok (.lload 6, 2) := by decide +kernel
theorem dX9_rounding_42 : decode cX9_rounding 42 = .ok (.lload 9, 2) := by decide +kernel
theorem dX9_rounding_44 : decode cX9_rounding 44 = .ok (.lconst 0, 1) := by decide +kernel
theorem dX9_rounding_45 : decode cX9_rounding 45 = .ok (.lcmp, 1) := by decide +kernel
theorem dX9_rounding_46 : decode cX9_rounding 46 = .ok (.ifCond .ge 9, 3) := by decide +kernel
theorem dX9_rounding_49 : decode cX9_rounding 49 = .ok (.lload 9, 2) := by decide +kernel
theorem dX9_rounding_51 : decode cX9_rounding 51 = .ok (.lneg, 1) := by decide +kernel
theorem dX9_rounding_52 : decode cX9_rounding 52 = .ok (.goto 5, 3) := by decide +kernel
theorem dX9_rounding_55 : decode cX9_rounding 55 = .ok (.lload 9, 2) := by decide +kernel
theorem dX9_rounding_57 : decode cX9_rounding 57 = .ok (.ladd, 1) := by decide +kernel
theorem dX9_rounding_58 : decode cX9_rounding 58 = .ok (.lstore 6, 2) := by decide +kernel
theorem dX9_rounding_60 : decode cX9_rounding 60 = .ok (.aload_n 0, 1) := by decide +kernel
theorem dX9_rounding_61 : decode cX9_rounding 61 = .ok (.iload_n 1, 1) := by decide +kernel
theorem dX9_rounding_62 : decode cX9_rounding 62 = .ok (.iload_n 2, 1) := by decide +kernel
theorem dX9_rounding_63 : decode cX9_rounding 63 = .ok (.iload 8, 2) := by decide +kernel
theorem dX9_rounding_65 : decode cX9_rounding 65 = .ok (.iconst 1, 1) := by decide +kernel
theorem dX9_rounding_66 : decode cX9_rounding 66 = .ok (.isub, 1) := by decide +kernel
theorem dX9_rounding_67 : decode cX9_rounding 67 = .ok (.invokestatic 51, 3) := by decide +kernel
theorem dX9_rounding_70 : decode cX9_rounding 70 = .ok (.iload_n 1, 1) := by decide +kernel
theorem dX9_rounding_71 : decode cX9_rounding 71 = .ok (.iload_n 2, 1) := by decide +kernel
theorem dX9_rounding_72 : decode cX9_rounding 72 = .ok (.iload 8, 2) := by decide +kernel
theorem dX9_rounding_74 : decode cX9_rounding 74 = .ok (.invokestatic 51, 3) := by decide +kernel
theorem dX9_rounding_77 : decode cX9_rounding 77 = .ok (.lload 4, 2) := by decide +kernel
theorem dX9_rounding_79 : decode cX9_rounding 79 = .ok (.invokevirtual 133, 3) := by decide +kernel
theorem dX9_rounding_82 : decode cX9_rounding 82 = .ok (.lstore 4, 2) := by decide +kernel
theorem dX9_rounding_84 : decode cX9_rounding 84 = .ok (.iinc 8 1, 3) := by decide +kernel
theorem dX9_rounding_87 : decode cX9_rounding 87 = .ok (.goto (-77), 3) := by decide +kernel
theorem dX9_rounding_90 : decode cX9_rounding 90 = .ok (.lload 6, 2) := by decide +kernel
theorem dX9_rounding_92 : decode cX9_rounding 92 = .ok (.lreturn, 1) := by decide +kernel
theorem dX9_power_0 : decode cX9_power 0 = .ok (.iload_n 0, 1) := by decide +kernel
theorem dX9_power_1 : decode cX9_power 1 = .ok (.iconst 2, 1) := by decide +kernel
theorem dX9_power_2 : decode cX9_power 2 = .ok (.if_icmp .ne 8, 3) := by decide +kernel
theorem dX9_power_5 : decode cX9_power 5 = .ok (.bipush 10, 2) := by decide +kernel
theorem dX9_power_7 : decode cX9_power 7 = .ok (.goto 27, 3) := by decide +kernel
theorem dX9_power_10 : decode cX9_power 10 = .ok (.iload_n 0, 1) := by decide +kernel
theorem dX9_power_11 : decode cX9_power 11 = .ok (.iconst 3, 1) := by decide +kernel
theorem dX9_power_12 : decode cX9_power 12 = .ok (.if_icmp .ne 8, 3) := by decide +kernel
theorem dX9_power_15 : decode cX9_power 15 = .ok (.bipush 100, 2) := by decide +kernel
theorem dX9_power_17 : decode cX9_power 17 = .ok (.goto 17, 3) := by decide +kernel
theorem dX9_power_20 : decode cX9_power 20 = .ok (.iload_n 0, 1) := by decide +kernel
theorem dX9_power_21 : decode cX9_power 21 = .ok (.iconst 4, 1) := by decide +kernel
theorem dX9_power_22 : decode cX9_power 22 = .ok (.if_icmp .ne 9, 3) := by decide +kernel
theorem dX9_power_25 : decode cX9_power 25 = .ok (.sipush 1000, 3) := by decide +kernel
theorem dX9_power_28 : decode cX9_power 28 = .ok (.goto 6, 3) := by decide +kernel
theorem dX9_power_31 : decode cX9_power 31 = .ok (.sipush 10000, 3) := by decide +kernel
theorem dX9_power_34 : decode cX9_power 34 = .ok (.ireturn, 1) := by decide +kernel
theorem dX9_way_0 : decode cX9_way 0 = .ok (.iconst (-1), 1) := by decide +kernel
theorem dX9_way_1 : decode cX9_way 1 = .ok (.istore 4, 2) := by decide +kernel
theorem dX9_way_3 : decode cX9_way 3 = .ok (.lconst 0, 1) := by decide +kernel
theorem dX9_way_4 : decode cX9_way 4 = .ok (.lstore 5, 2) := by decide +kernel
theorem dX9_way_6 : decode cX9_way 6 = .ok (.iconst 2, 1) := by decide +kernel
theorem dX9_way_7 : decode cX9_way 7 = .ok (.istore 7, 2) := by decide +kernel
theorem dX9_way_9 : decode cX9_way 9 = .ok (.iload 7, 2) := by decide +kernel
theorem dX9_way_11 : decode cX9_way 11 = .ok (.aload_n 0, 1) := by decide +kernel
theorem dX9_way_12 : decode cX9_way 12 = .ok (.getfield 7, 3) := by decide +kernel
theorem dX9_way_15 : decode cX9_way 15 = .ok (.bipush 27, 2) := by decide +kernel
theorem dX9_way_17 : decode cX9_way 17 = .ok (.iaload, 1) := by decide +kernel
theorem dX9_way_18 : decode cX9_way 18 = .ok (.iconst 1, 1) := by decide +kernel
theorem dX9_way_19 : decode cX9_way 19 = .ok (.iadd, 1) := by decide +kernel
theorem dX9_way_20 : decode cX9_way 20 = .ok (.if_icmp .gt 84, 3) := by decide +kernel
theorem dX9_way_23 : decode cX9_way 23 = .ok (.iload_n 1, 1) := by decide +kernel
theorem dX9_way_24 : decode cX9_way 24 = .ok (.iload 7, 2) := by decide +kernel
theorem dX9_way_26 : decode cX9_way 26 = .ok (.invokestatic 256, 3) := by decide +kernel
theorem dX9_way_29 : decode cX9_way 29 = .ok (.imul, 1) := by decide +kernel
theorem dX9_way_30 : decode cX9_way 30 = .ok (.istore 8, 2) := by decide +kernel
theorem dX9_way_32 : decode cX9_way 32 = .ok (.iload 8, 2) := by decide +kernel
theorem dX9_way_34 : decode cX9_way 34 = .ok (.iload_n 1, 1) := by decide +kernel
theorem dX9_way_35 : decode cX9_way 35 = .ok (.iconst 1, 1) := by decide +kernel
theorem dX9_way_36 : decode cX9_way 36 = .ok (.iadd, 1) := by decide +kernel
theorem dX9_way_37 : decode cX9_way 37 = .ok (.iload 7, 2) := by decide +kernel
theorem dX9_way_39 : decode cX9_way 39 = .ok (.invokestatic 256, 3) := by decide +kernel
theorem dX9_way_42 : decode cX9_way 42 = .ok (.imul, 1) := by decide +kernel
theorem dX9_way_43 : decode cX9_way 43 = .ok (.if_icmp .ge 55, 3) := by decide +kernel
theorem dX9_way_46 : decode cX9_way 46 = .ok (.aload_n 0, 1) := by decide +kernel
theorem dX9_way_47 : decode cX9_way 47 = .ok (.iload 8, 2) := by decide +kernel
theorem dX9_way_49 : decode cX9_way 49 = .ok (.iload 7, 2) := by decide +kernel
theorem dX9_way_51 : decode cX9_way 51 = .ok (.iload_n 1, 1) := by decide +kernel
theorem dX9_way_52 : decode cX9_way 52 = .ok (.iload_n 2, 1) := by decide +kernel
theorem dX9_way_53 : decode cX9_way 53 = .ok (.invokevirtual 259, 3) := by decide +kernel
theorem dX9_way_56 : decode cX9_way 56 = .ok (.ifCond .eq 36, 3) := by decide +kernel
theorem dX9_way_59 : decode cX9_way 59 = .ok (.aload_n 0, 1) := by decide +kernel
theorem dX9_way_60 : decode cX9_way 60 = .ok (.iload 8, 2) := by decide +kernel
theorem dX9_way_62 : decode cX9_way 62 = .ok (.iload 7, 2) := by decide +kernel
theorem dX9_way_64 : decode cX9_way 64 = .ok (.iload_n 3, 1) := by decide +kernel
theorem dX9_way_65 : decode cX9_way 65 = .ok (.invokevirtual 263, 3) := by decide +kernel
theorem dX9_way_68 : decode cX9_way 68 = .ok (.lstore 9, 2) := by decide +kernel
theorem dX9_way_70 : decode cX9_way 70 = .ok (.iload 4, 2) := by decide +kernel
theorem dX9_way_72 : decode cX9_way 72 = .ok (.iconst (-1), 1) := by decide +kernel
theorem dX9_way_73 : decode cX9_way 73 = .ok (.if_icmp .eq 11, 3) := by decide +kernel
theorem dX9_way_76 : decode cX9_way 76 = .ok (.lload 9, 2) := by decide +kernel
theorem dX9_way_78 : decode cX9_way 78 = .ok (.lload 5, 2) := by decide +kernel
theorem dX9_way_80 : decode cX9_way 80 = .ok (.lcmp, 1) := by decide +kernel
theorem dX9_way_81 : decode cX9_way 81 = .ok (.ifCond .ge 11, 3) := by decide +kernel
theorem dX9_way_84 : decode cX9_way 84 = .ok (.iload 8, 2) := by decide +kernel
theorem dX9_way_86 : decode cX9_way 86 = .ok (.istore 4, 2) := by decide +kernel
theorem dX9_way_88 : decode cX9_way 88 = .ok (.lload 9, 2) := by decide +kernel
theorem dX9_way_90 : decode cX9_way 90 = .ok (.lstore 5, 2) := by decide +kernel
theorem dX9_way_92 : decode cX9_way 92 = .ok (.iinc 8 1, 3) := by decide +kernel
theorem dX9_way_95 : decode cX9_way 95 = .ok (.goto (-63), 3) := by decide +kernel
theorem dX9_way_98 : decode cX9_way 98 = .ok (.iinc 7 1, 3) := by decide +kernel
theorem dX9_way_101 : decode cX9_way 101 = .ok (.goto (-92), 3) := by decide +kernel
theorem dX9_way_104 : decode cX9_way 104 = .ok (.iload 4, 2) := by decide +kernel
theorem dX9_way_106 : decode cX9_way 106 = .ok (.iconst (-1), 1) := by decide +kernel
theorem dX9_way_107 : decode cX9_way 107 = .ok (.if_icmp .ne 7, 3) := by decide +kernel
theorem dX9_way_110 : decode cX9_way 110 = .ok (.iconst (-1), 1) := by decide +kernel
theorem dX9_way_111 : decode cX9_way 111 = .ok (.goto 8, 3) := by decide +kernel
theorem dX9_way_114 : decode cX9_way 114 = .ok (.iload 4, 2) := by decide +kernel
theorem dX9_way_116 : decode cX9_way 116 = .ok (.ldc 35, 2) := by decide +kernel
theorem dX9_way_118 : decode cX9_way 118 = .ok (.iadd, 1) := by decide +kernel
theorem dX9_way_119 : decode cX9_way 119 = .ok (.ireturn, 1) := by decide +kernel
theorem dX9_bestWay_0 : decode cX9_bestWay 0 = .ok (.aload_n 0, 1) := by decide +kernel
theorem dX9_bestWay_1 : decode cX9_bestWay 1 = .ok (.iload_n 1, 1) := by decide +kernel
theorem dX9_bestWay_2 : decode cX9_bestWay 2 = .ok (.iload_n 2, 1) := by decide +kernel
theorem dX9_bestWay_3 : decode cX9_bestWay 3 = .ok (.iload_n 3, 1) := by decide +kernel
theorem dX9_bestWay_4 : decode cX9_bestWay 4 = .ok (.iconst 0, 1) := by decide +kernel
theorem dX9_bestWay_5 : decode cX9_bestWay 5 = .ok (.sipush 9999, 3) := by decide +kernel
theorem dX9_bestWay_8 : decode cX9_bestWay 8 = .ok (.invokestatic 44, 3) := by decide +kernel
theorem dX9_bestWay_11 : decode cX9_bestWay 11 = .ok (.invokestatic 220, 3) := by decide +kernel
theorem dX9_bestWay_14 : decode cX9_bestWay 14 = .ok (.invokevirtual 111, 3) := by decide +kernel
theorem dX9_bestWay_17 : decode cX9_bestWay 17 = .ok (.ifCond .eq 5, 3) := by decide +kernel
theorem dX9_bestWay_20 : decode cX9_bestWay 20 = .ok (.iconst 0, 1) := by decide +kernel
theorem dX9_bestWay_21 : decode cX9_bestWay 21 = .ok (.ireturn, 1) := by decide +kernel
theorem dX9_bestWay_22 : decode cX9_bestWay 22 = .ok (.aload_n 0, 1) := by decide +kernel
theorem dX9_bestWay_23 : decode cX9_bestWay 23 = .ok (.iload_n 1, 1) := by decide +kernel
theorem dX9_bestWay_24 : decode cX9_bestWay 24 = .ok (.iload_n 2, 1) := by decide +kernel
theorem dX9_bestWay_25 : decode cX9_bestWay 25 = .ok (.iload_n 3, 1) := by decide +kernel
theorem dX9_bestWay_26 : decode cX9_bestWay 26 = .ok (.invokevirtual 267, 3) := by decide +kernel
theorem dX9_bestWay_29 : decode cX9_bestWay 29 = .ok (.ireturn, 1) := by decide +kernel
theorem dX9_divisor_0 : decode cX9_divisor 0 = .ok (.lload_n 0, 1) := by decide +kernel
theorem dX9_divisor_1 : decode cX9_divisor 1 = .ok (.lstore 4, 2) := by decide +kernel
theorem dX9_divisor_3 : decode cX9_divisor 3 = .ok (.lload_n 2, 1) := by decide +kernel
theorem dX9_divisor_4 : decode cX9_divisor 4 = .ok (.lstore 6, 2) := by decide +kernel
theorem dX9_divisor_6 : decode cX9_divisor 6 = .ok (.lload 6, 2) := by decide +kernel
theorem dX9_divisor_8 : decode cX9_divisor 8 = .ok (.lconst 0, 1) := by decide +kernel
theorem dX9_divisor_9 : decode cX9_divisor 9 = .ok (.lcmp, 1) := by decide +kernel
theorem dX9_divisor_10 : decode cX9_divisor 10 = .ok (.ifCond .eq 21, 3) := by decide +kernel
theorem dX9_divisor_13 : decode cX9_divisor 13 = .ok (.lload 4, 2) := by decide +kernel
theorem dX9_divisor_15 : decode cX9_divisor 15 = .ok (.lload 6, 2) := by decide +kernel
theorem dX9_divisor_17 : decode cX9_divisor 17 = .ok (.lrem, 1) := by decide +kernel
theorem dX9_divisor_18 : decode cX9_divisor 18 = .ok (.lstore 8, 2) := by decide +kernel
theorem dX9_divisor_20 : decode cX9_divisor 20 = .ok (.lload 6, 2) := by decide +kernel
theorem dX9_divisor_22 : decode cX9_divisor 22 = .ok (.lstore 4, 2) := by decide +kernel
theorem dX9_divisor_24 : decode cX9_divisor 24 = .ok (.lload 8, 2) := by decide +kernel
theorem dX9_divisor_26 : decode cX9_divisor 26 = .ok (.lstore 6, 2) := by decide +kernel
theorem dX9_divisor_28 : decode cX9_divisor 28 = .ok (.goto (-22), 3) := by decide +kernel
theorem dX9_divisor_31 : decode cX9_divisor 31 = .ok (.lload 4, 2) := by decide +kernel
theorem dX9_divisor_33 : decode cX9_divisor 33 = .ok (.lreturn, 1) := by decide +kernel
theorem dX9_mend_0 : decode cX9_mend 0 = .ok (.iconst 3, 1) := by decide +kernel
theorem dX9_mend_1 : decode cX9_mend 1 = .ok (.istore 4, 2) := by decide +kernel
theorem dX9_mend_3 : decode cX9_mend 3 = .ok (.iload 4, 2) := by decide +kernel
theorem dX9_mend_5 : decode cX9_mend 5 = .ok (.bipush 6, 2) := by decide +kernel
theorem dX9_mend_7 : decode cX9_mend 7 = .ok (.if_icmp .ge 186, 3) := by decide +kernel
theorem dX9_mend_10 : decode cX9_mend 10 = .ok (.iload_n 1, 1) := by decide +kernel
theorem dX9_mend_11 : decode cX9_mend 11 = .ok (.iload 4, 2) := by decide +kernel
theorem dX9_mend_13 : decode cX9_mend 13 = .ok (.invokestatic 256, 3) := by decide +kernel
theorem dX9_mend_16 : decode cX9_mend 16 = .ok (.imul, 1) := by decide +kernel
theorem dX9_mend_17 : decode cX9_mend 17 = .ok (.istore 5, 2) := by decide +kernel
theorem dX9_mend_19 : decode cX9_mend 19 = .ok (.iload 5, 2) := by decide +kernel
theorem dX9_mend_21 : decode cX9_mend 21 = .ok (.iload_n 1, 1) := by decide +kernel
theorem dX9_mend_22 : decode cX9_mend 22 = .ok (.iconst 1, 1) := by decide +kernel
theorem dX9_mend_23 : decode cX9_mend 23 = .ok (.iadd, 1) := by decide +kernel
theorem dX9_mend_24 : decode cX9_mend 24 = .ok (.iload 4, 2) := by decide +kernel
theorem dX9_mend_26 : decode cX9_mend 26 = .ok (.invokestatic 256, 3) := by decide +kernel
theorem dX9_mend_29 : decode cX9_mend 29 = .ok (.imul, 1) := by decide +kernel
theorem dX9_mend_30 : decode cX9_mend 30 = .ok (.if_icmp .ge 157, 3) := by decide +kernel
theorem dX9_mend_33 : decode cX9_mend 33 = .ok (.aload_n 0, 1) := by decide +kernel
theorem dX9_mend_34 : decode cX9_mend 34 = .ok (.iload 5, 2) := by decide +kernel
theorem dX9_mend_36 : decode cX9_mend 36 = .ok (.iload 4, 2) := by decide +kernel
theorem dX9_mend_38 : decode cX9_mend 38 = .ok (.iload_n 1, 1) := by decide +kernel
theorem dX9_mend_39 : decode cX9_mend 39 = .ok (.iload_n 2, 1) := by decide +kernel
theorem dX9_mend_40 : decode cX9_mend 40 = .ok (.invokevirtual 259, 3) := by decide +kernel
theorem dX9_mend_43 : decode cX9_mend 43 = .ok (.ifCond .eq 138, 3) := by decide +kernel
theorem dX9_mend_46 : decode cX9_mend 46 = .ok (.lconst 1, 1) := by decide +kernel
theorem dX9_mend_47 : decode cX9_mend 47 = .ok (.lstore 6, 2) := by decide +kernel
theorem dX9_mend_49 : decode cX9_mend 49 = .ok (.lconst 1, 1) := by decide +kernel
theorem dX9_mend_50 : decode cX9_mend 50 = .ok (.lstore 8, 2) := by decide +kernel
theorem dX9_mend_52 : decode cX9_mend 52 = .ok (.iconst 1, 1) := by decide +kernel
theorem dX9_mend_53 : decode cX9_mend 53 = .ok (.istore 10, 2) := by decide +kernel
theorem dX9_mend_55 : decode cX9_mend 55 = .ok (.iload 10, 2) := by decide +kernel
theorem dX9_mend_57 : decode cX9_mend 57 = .ok (.iload 4, 2) := by decide +kernel
theorem dX9_mend_59 : decode cX9_mend 59 = .ok (.if_icmp .ge 69, 3) := by decide +kernel
theorem dX9_mend_62 : decode cX9_mend 62 = .ok (.lload 6, 2) := by decide +kernel
theorem dX9_mend_64 : decode cX9_mend 64 = .ok (.aload_n 0, 1) := by decide +kernel
theorem dX9_mend_65 : decode cX9_mend 65 = .ok (.iload 5, 2) := by decide +kernel
theorem dX9_mend_67 : decode cX9_mend 67 = .ok (.iload 4, 2) := by decide +kernel
theorem dX9_mend_69 : decode cX9_mend 69 = .ok (.iload 10, 2) := by decide +kernel
theorem dX9_mend_71 : decode cX9_mend 71 = .ok (.iconst 1, 1) := by decide +kernel
theorem dX9_mend_72 : decode cX9_mend 72 = .ok (.isub, 1) := by decide +kernel
theorem dX9_mend_73 : decode cX9_mend 73 = .ok (.invokestatic 51, 3) := by decide +kernel
theorem dX9_mend_76 : decode cX9_mend 76 = .ok (.iload 5, 2) := by decide +kernel
theorem dX9_mend_78 : decode cX9_mend 78 = .ok (.iload 4, 2) := by decide +kernel
theorem dX9_mend_80 : decode cX9_mend 80 = .ok (.iload 10, 2) := by decide +kernel
theorem dX9_mend_82 : decode cX9_mend 82 = .ok (.invokestatic 51, 3) := by decide +kernel
theorem dX9_mend_85 : decode cX9_mend 85 = .ok (.invokevirtual 69, 3) := by decide +kernel
theorem dX9_mend_88 : decode cX9_mend 88 = .ok (.i2l, 1) := by decide +kernel
theorem dX9_mend_89 : decode cX9_mend 89 = .ok (.lmul, 1) := by decide +kernel
theorem dX9_mend_90 : decode cX9_mend 90 = .ok (.lstore 6, 2) := by decide +kernel
theorem dX9_mend_92 : decode cX9_mend 92 = .ok (.lload 8, 2) := by decide +kernel
theorem dX9_mend_94 : decode cX9_mend 94 = .ok (.aload_n 0, 1) := by decide +kernel
theorem dX9_mend_95 : decode cX9_mend 95 = .ok (.iload 5, 2) := by decide +kernel
theorem dX9_mend_97 : decode cX9_mend 97 = .ok (.iload 4, 2) := by decide +kernel
theorem dX9_mend_99 : decode cX9_mend 99 = .ok (.iload 10, 2) := by decide +kernel
theorem dX9_mend_101 : decode cX9_mend 101 = .ok (.iconst 1, 1) := by decide +kernel
theorem dX9_mend_102 : decode cX9_mend 102 = .ok (.isub, 1) := by decide +kernel
theorem dX9_mend_103 : decode cX9_mend 103 = .ok (.invokestatic 51, 3) := by decide +kernel
theorem dX9_mend_106 : decode cX9_mend 106 = .ok (.iload 5, 2) := by decide +kernel
theorem dX9_mend_108 : decode cX9_mend 108 = .ok (.iload 4, 2) := by decide +kernel
theorem dX9_mend_110 : decode cX9_mend 110 = .ok (.iload 10, 2) := by decide +kernel
theorem dX9_mend_112 : decode cX9_mend 112 = .ok (.invokestatic 51, 3) := by decide +kernel
theorem dX9_mend_115 : decode cX9_mend 115 = .ok (.invokevirtual 72, 3) := by decide +kernel
theorem dX9_mend_118 : decode cX9_mend 118 = .ok (.i2l, 1) := by decide +kernel
theorem dX9_mend_119 : decode cX9_mend 119 = .ok (.lmul, 1) := by decide +kernel
theorem dX9_mend_120 : decode cX9_mend 120 = .ok (.lstore 8, 2) := by decide +kernel
theorem dX9_mend_122 : decode cX9_mend 122 = .ok (.iinc 10 1, 3) := by decide +kernel
theorem dX9_mend_125 : decode cX9_mend 125 = .ok (.goto (-70), 3) := by decide +kernel
theorem dX9_mend_128 : decode cX9_mend 128 = .ok (.lload 6, 2) := by decide +kernel
theorem dX9_mend_130 : decode cX9_mend 130 = .ok (.lload 8, 2) := by decide +kernel
theorem dX9_mend_132 : decode cX9_mend 132 = .ok (.invokestatic 270, 3) := by decide +kernel
theorem dX9_mend_135 : decode cX9_mend 135 = .ok (.lstore 10, 2) := by decide +kernel
theorem dX9_mend_137 : decode cX9_mend 137 = .ok (.lload 6, 2) := by decide +kernel
theorem dX9_mend_139 : decode cX9_mend 139 = .ok (.lload 10, 2) := by decide +kernel
theorem dX9_mend_141 : decode cX9_mend 141 = .ok (.ldiv, 1) := by decide +kernel
theorem dX9_mend_142 : decode cX9_mend 142 = .ok (.ldc2_w 273, 3) := by decide +kernel
theorem dX9_mend_145 : decode cX9_mend 145 = .ok (.lcmp, 1) := by decide +kernel
theorem dX9_mend_146 : decode cX9_mend 146 = .ok (.ifCond .gt 15, 3) := by decide +kernel
theorem dX9_mend_149 : decode cX9_mend 149 = .ok (.lload 8, 2) := by decide +kernel
theorem dX9_mend_151 : decode cX9_mend 151 = .ok (.lload 10, 2) := by decide +kernel
theorem dX9_mend_153 : decode cX9_mend 153 = .ok (.ldiv, 1) := by decide +kernel
theorem dX9_mend_154 : decode cX9_mend 154 = .ok (.ldc2_w 273, 3) := by decide +kernel
theorem dX9_mend_157 : decode cX9_mend 157 = .ok (.lcmp, 1) := by decide +kernel
theorem dX9_mend_158 : decode cX9_mend 158 = .ok (.ifCond .le 7, 3) := by decide +kernel
theorem dX9_mend_161 : decode cX9_mend 161 = .ok (.iconst (-1), 1) := by decide +kernel
theorem dX9_mend_162 : decode cX9_mend 162 = .ok (.goto 18, 3) := by decide +kernel
theorem dX9_mend_165 : decode cX9_mend 165 = .ok (.iload_n 3, 1) := by decide +kernel
theorem dX9_mend_166 : decode cX9_mend 166 = .ok (.ifCond .ne 8, 3) := by decide +kernel
theorem dX9_mend_169 : decode cX9_mend 169 = .ok (.lload 6, 2) := by decide +kernel
theorem dX9_mend_171 : decode cX9_mend 171 = .ok (.goto 5, 3) := by decide +kernel
theorem dX9_mend_174 : decode cX9_mend 174 = .ok (.lload 8, 2) := by decide +kernel
theorem dX9_mend_176 : decode cX9_mend 176 = .ok (.lload 10, 2) := by decide +kernel
theorem dX9_mend_178 : decode cX9_mend 178 = .ok (.ldiv, 1) := by decide +kernel
theorem dX9_mend_179 : decode cX9_mend 179 = .ok (.l2i, 1) := by decide +kernel
theorem dX9_mend_180 : decode cX9_mend 180 = .ok (.ireturn, 1) := by decide +kernel
theorem dX9_mend_181 : decode cX9_mend 181 = .ok (.iinc 5 1, 3) := by decide +kernel
theorem dX9_mend_184 : decode cX9_mend 184 = .ok (.goto (-165), 3) := by decide +kernel
theorem dX9_mend_187 : decode cX9_mend 187 = .ok (.iinc 4 1, 3) := by decide +kernel
theorem dX9_mend_190 : decode cX9_mend 190 = .ok (.goto (-187), 3) := by decide +kernel
theorem dX9_mend_193 : decode cX9_mend 193 = .ok (.iconst (-1), 1) := by decide +kernel
theorem dX9_mend_194 : decode cX9_mend 194 = .ok (.ireturn, 1) := by decide +kernel
theorem dX9_mends_0 : decode cX9_mends 0 = .ok (.aload_n 0, 1) := by decide +kernel
theorem dX9_mends_1 : decode cX9_mends 1 = .ok (.iload_n 1, 1) := by decide +kernel
theorem dX9_mends_2 : decode cX9_mends 2 = .ok (.iload_n 2, 1) := by decide +kernel
theorem dX9_mends_3 : decode cX9_mends 3 = .ok (.iload_n 3, 1) := by decide +kernel
theorem dX9_mends_4 : decode cX9_mends 4 = .ok (.iconst 0, 1) := by decide +kernel
theorem dX9_mends_5 : decode cX9_mends 5 = .ok (.iconst 1, 1) := by decide +kernel
theorem dX9_mends_6 : decode cX9_mends 6 = .ok (.invokestatic 44, 3) := by decide +kernel
theorem dX9_mends_9 : decode cX9_mends 9 = .ok (.invokestatic 220, 3) := by decide +kernel
theorem dX9_mends_12 : decode cX9_mends 12 = .ok (.invokevirtual 111, 3) := by decide +kernel
theorem dX9_mends_15 : decode cX9_mends 15 = .ok (.ifCond .eq 5, 3) := by decide +kernel
theorem dX9_mends_18 : decode cX9_mends 18 = .ok (.iconst 0, 1) := by decide +kernel
theorem dX9_mends_19 : decode cX9_mends 19 = .ok (.ireturn, 1) := by decide +kernel
theorem dX9_mends_20 : decode cX9_mends 20 = .ok (.aload_n 0, 1) := by decide +kernel
theorem dX9_mends_21 : decode cX9_mends 21 = .ok (.iload_n 1, 1) := by decide +kernel
theorem dX9_mends_22 : decode cX9_mends 22 = .ok (.iload_n 2, 1) := by decide +kernel
theorem dX9_mends_23 : decode cX9_mends 23 = .ok (.iload_n 3, 1) := by decide +kernel
theorem dX9_mends_24 : decode cX9_mends 24 = .ok (.invokevirtual 275, 3) := by decide +kernel
theorem dX9_mends_27 : decode cX9_mends 27 = .ok (.ireturn, 1) := by decide +kernel
theorem dX9_share_0 : decode cX9_share 0 = .ok (.aload_n 0, 1) := by decide +kernel
theorem dX9_share_1 : decode cX9_share 1 = .ok (.invokevirtual 127, 3) := by decide +kernel
theorem dX9_share_4 : decode cX9_share 4 = .ok (.istore_n 1, 1) := by decide +kernel
theorem dX9_share_5 : decode cX9_share 5 = .ok (.iload_n 1, 1) := by decide +kernel
theorem dX9_share_6 : decode cX9_share 6 = .ok (.ifCond .ne 7, 3) := by decide +kernel
theorem dX9_share_9 : decode cX9_share 9 = .ok (.dconst 1, 1) := by decide +kernel
theorem dX9_share_10 : decode cX9_share 10 = .ok (.goto 13, 3) := by decide +kernel
theorem dX9_share_13 : decode cX9_share 13 = .ok (.iload_n 1, 1) := by decide +kernel
theorem dX9_share_14 : decode cX9_share 14 = .ok (.aload_n 0, 1) := by decide +kernel
theorem dX9_share_15 : decode cX9_share 15 = .ok (.invokevirtual 239, 3) := by decide +kernel
theorem dX9_share_18 : decode cX9_share 18 = .ok (.isub, 1) := by decide +kernel
theorem dX9_share_19 : decode cX9_share 19 = .ok (.i2d, 1) := by decide +kernel
theorem dX9_share_20 : decode cX9_share 20 = .ok (.iload_n 1, 1) := by decide +kernel
theorem dX9_share_21 : decode cX9_share 21 = .ok (.i2d, 1) := by decide +kernel
theorem dX9_share_22 : decode cX9_share 22 = .ok (.ddiv, 1) := by decide +kernel
theorem dX9_share_23 : decode cX9_share 23 = .ok (.dreturn, 1) := by decide +kernel
theorem dX9_trueShare_0 : decode cX9_trueShare 0 = .ok (.aload_n 0, 1) := by decide +kernel
theorem dX9_trueShare_1 : decode cX9_trueShare 1 = .ok (.iconst 0, 1) := by decide +kernel
theorem dX9_trueShare_2 : decode cX9_trueShare 2 = .ok (.putfield 40, 3) := by decide +kernel
theorem dX9_trueShare_5 : decode cX9_trueShare 5 = .ok (.aload_n 0, 1) := by decide +kernel
theorem dX9_trueShare_6 : decode cX9_trueShare 6 = .ok (.invokevirtual 278, 3) := by decide +kernel
theorem dX9_trueShare_9 : decode cX9_trueShare 9 = .ok (.dreturn, 1) := by decide +kernel
theorem dX9_digest_0 : decode cX9_digest 0 = .ok (.aload_n 0, 1) := by decide +kernel
theorem dX9_digest_1 : decode cX9_digest 1 = .ok (.iconst 0, 1) := by decide +kernel
theorem dX9_digest_2 : decode cX9_digest 2 = .ok (.putfield 40, 3) := by decide +kernel
theorem dX9_digest_5 : decode cX9_digest 5 = .ok (.ldc2_w 282, 3) := by decide +kernel
theorem dX9_digest_8 : decode cX9_digest 8 = .ok (.lstore_n 1, 1) := by decide +kernel
theorem dX9_digest_9 : decode cX9_digest 9 = .ok (.iconst 0, 1) := by decide +kernel
theorem dX9_digest_10 : decode cX9_digest 10 = .ok (.istore_n 3, 1) := by decide +kernel
theorem dX9_digest_11 : decode cX9_digest 11 = .ok (.iload_n 3, 1) := by decide +kernel
theorem dX9_digest_12 : decode cX9_digest 12 = .ok (.bipush 18, 2) := by decide +kernel
theorem dX9_digest_14 : decode cX9_digest 14 = .ok (.if_icmp .ge 22, 3) := by decide +kernel
theorem dX9_digest_17 : decode cX9_digest 17 = .ok (.ldc2_w 284, 3) := by decide +kernel
theorem dX9_digest_20 : decode cX9_digest 20 = .ok (.lload_n 1, 1) := by decide +kernel
theorem dX9_digest_21 : decode cX9_digest 21 = .ok (.lmul, 1) := by decide +kernel
theorem dX9_digest_22 : decode cX9_digest 22 = .ok (.aload_n 0, 1) := by decide +kernel
theorem dX9_digest_23 : decode cX9_digest 23 = .ok (.iload_n 3, 1) := by decide +kernel
theorem dX9_digest_24 : decode cX9_digest 24 = .ok (.invokevirtual 252, 3) := by decide +kernel
theorem dX9_digest_27 : decode cX9_digest 27 = .ok (.i2l, 1) := by decide +kernel
theorem dX9_digest_28 : decode cX9_digest 28 = .ok (.ladd, 1) := by decide +kernel
theorem dX9_digest_29 : decode cX9_digest 29 = .ok (.lstore_n 1, 1) := by decide +kernel
theorem dX9_digest_30 : decode cX9_digest 30 = .ok (.iinc 3 1, 3) := by decide +kernel
theorem dX9_digest_33 : decode cX9_digest 33 = .ok (.goto (-22), 3) := by decide +kernel
theorem dX9_digest_36 : decode cX9_digest 36 = .ok (.iconst 0, 1) := by decide +kernel
theorem dX9_digest_37 : decode cX9_digest 37 = .ok (.istore_n 3, 1) := by decide +kernel
theorem dX9_digest_38 : decode cX9_digest 38 = .ok (.iload_n 3, 1) := by decide +kernel
theorem dX9_digest_39 : decode cX9_digest 39 = .ok (.iconst 5, 1) := by decide +kernel
theorem dX9_digest_40 : decode cX9_digest 40 = .ok (.if_icmp .ge 123, 3) := by decide +kernel
theorem dX9_digest_43 : decode cX9_digest 43 = .ok (.iload_n 3, 1) := by decide +kernel
theorem dX9_digest_44 : decode cX9_digest 44 = .ok (.iconst 1, 1) := by decide +kernel
theorem dX9_digest_45 : decode cX9_digest 45 = .ok (.iadd, 1) := by decide +kernel
theorem dX9_digest_46 : decode cX9_digest 46 = .ok (.istore 4, 2) := by decide +kernel
theorem dX9_digest_48 : decode cX9_digest 48 = .ok (.iload 4, 2) := by decide +kernel
theorem dX9_digest_50 : decode cX9_digest 50 = .ok (.iconst 5, 1) := by decide +kernel
theorem dX9_digest_51 : decode cX9_digest 51 = .ok (.if_icmp .ge 106, 3) := by decide +kernel
theorem dX9_digest_54 : decode cX9_digest 54 = .ok (.ldc2_w 284, 3) := by decide +kernel
theorem dX9_digest_57 : decode cX9_digest 57 = .ok (.lload_n 1, 1) := by decide +kernel
theorem dX9_digest_58 : decode cX9_digest 58 = .ok (.lmul, 1) := by decide +kernel
theorem dX9_digest_59 : decode cX9_digest 59 = .ok (.aload_n 0, 1) := by decide +kernel
theorem dX9_digest_60 : decode cX9_digest 60 = .ok (.iload_n 3, 1) := by decide +kernel
theorem dX9_digest_61 : decode cX9_digest 61 = .ok (.iload 4, 2) := by decide +kernel
theorem dX9_digest_63 : decode cX9_digest 63 = .ok (.iconst 0, 1) := by decide +kernel
theorem dX9_digest_64 : decode cX9_digest 64 = .ok (.invokevirtual 224, 3) := by decide +kernel
theorem dX9_digest_67 : decode cX9_digest 67 = .ok (.i2l, 1) := by decide +kernel
theorem dX9_digest_68 : decode cX9_digest 68 = .ok (.ladd, 1) := by decide +kernel
theorem dX9_digest_69 : decode cX9_digest 69 = .ok (.lstore_n 1, 1) := by decide +kernel
theorem dX9_digest_70 : decode cX9_digest 70 = .ok (.ldc2_w 284, 3) := by decide +kernel
theorem dX9_digest_73 : decode cX9_digest 73 = .ok (.lload_n 1, 1) := by decide +kernel
theorem dX9_digest_74 : decode cX9_digest 74 = .ok (.lmul, 1) := by decide +kernel
theorem dX9_digest_75 : decode cX9_digest 75 = .ok (.aload_n 0, 1) := by decide +kernel
theorem dX9_digest_76 : decode cX9_digest 76 = .ok (.iload_n 3, 1) := by decide +kernel
theorem dX9_digest_77 : decode cX9_digest 77 = .ok (.iload 4, 2) := by decide +kernel
theorem dX9_digest_79 : decode cX9_digest 79 = .ok (.iconst 1, 1) := by decide +kernel
theorem dX9_digest_80 : decode cX9_digest 80 = .ok (.invokevirtual 224, 3) := by decide +kernel
theorem dX9_digest_83 : decode cX9_digest 83 = .ok (.i2l, 1) := by decide +kernel
theorem dX9_digest_84 : decode cX9_digest 84 = .ok (.ladd, 1) := by decide +kernel
theorem dX9_digest_85 : decode cX9_digest 85 = .ok (.lstore_n 1, 1) := by decide +kernel
theorem dX9_digest_86 : decode cX9_digest 86 = .ok (.ldc2_w 284, 3) := by decide +kernel
theorem dX9_digest_89 : decode cX9_digest 89 = .ok (.lload_n 1, 1) := by decide +kernel
theorem dX9_digest_90 : decode cX9_digest 90 = .ok (.lmul, 1) := by decide +kernel
theorem dX9_digest_91 : decode cX9_digest 91 = .ok (.aload_n 0, 1) := by decide +kernel
theorem dX9_digest_92 : decode cX9_digest 92 = .ok (.iload_n 3, 1) := by decide +kernel
theorem dX9_digest_93 : decode cX9_digest 93 = .ok (.iload 4, 2) := by decide +kernel
theorem dX9_digest_95 : decode cX9_digest 95 = .ok (.iconst 2, 1) := by decide +kernel
theorem dX9_digest_96 : decode cX9_digest 96 = .ok (.invokevirtual 224, 3) := by decide +kernel
theorem dX9_digest_99 : decode cX9_digest 99 = .ok (.i2l, 1) := by decide +kernel
theorem dX9_digest_100 : decode cX9_digest 100 = .ok (.ladd, 1) := by decide +kernel
theorem dX9_digest_101 : decode cX9_digest 101 = .ok (.lstore_n 1, 1) := by decide +kernel
theorem dX9_digest_102 : decode cX9_digest 102 = .ok (.ldc2_w 284, 3) := by decide +kernel
theorem dX9_digest_105 : decode cX9_digest 105 = .ok (.lload_n 1, 1) := by decide +kernel
theorem dX9_digest_106 : decode cX9_digest 106 = .ok (.lmul, 1) := by decide +kernel
theorem dX9_digest_107 : decode cX9_digest 107 = .ok (.aload_n 0, 1) := by decide +kernel
theorem dX9_digest_108 : decode cX9_digest 108 = .ok (.iload_n 3, 1) := by decide +kernel
theorem dX9_digest_109 : decode cX9_digest 109 = .ok (.iload 4, 2) := by decide +kernel
theorem dX9_digest_111 : decode cX9_digest 111 = .ok (.iconst 0, 1) := by decide +kernel
theorem dX9_digest_112 : decode cX9_digest 112 = .ok (.invokevirtual 275, 3) := by decide +kernel
theorem dX9_digest_115 : decode cX9_digest 115 = .ok (.i2l, 1) := by decide +kernel
theorem dX9_digest_116 : decode cX9_digest 116 = .ok (.ladd, 1) := by decide +kernel
theorem dX9_digest_117 : decode cX9_digest 117 = .ok (.lstore_n 1, 1) := by decide +kernel
theorem dX9_digest_118 : decode cX9_digest 118 = .ok (.ldc2_w 284, 3) := by decide +kernel
theorem dX9_digest_121 : decode cX9_digest 121 = .ok (.lload_n 1, 1) := by decide +kernel
theorem dX9_digest_122 : decode cX9_digest 122 = .ok (.lmul, 1) := by decide +kernel
theorem dX9_digest_123 : decode cX9_digest 123 = .ok (.aload_n 0, 1) := by decide +kernel
theorem dX9_digest_124 : decode cX9_digest 124 = .ok (.iload_n 3, 1) := by decide +kernel
theorem dX9_digest_125 : decode cX9_digest 125 = .ok (.iload 4, 2) := by decide +kernel
theorem dX9_digest_127 : decode cX9_digest 127 = .ok (.iconst 1, 1) := by decide +kernel
theorem dX9_digest_128 : decode cX9_digest 128 = .ok (.invokevirtual 275, 3) := by decide +kernel
theorem dX9_digest_131 : decode cX9_digest 131 = .ok (.i2l, 1) := by decide +kernel
theorem dX9_digest_132 : decode cX9_digest 132 = .ok (.ladd, 1) := by decide +kernel
theorem dX9_digest_133 : decode cX9_digest 133 = .ok (.lstore_n 1, 1) := by decide +kernel
theorem dX9_digest_134 : decode cX9_digest 134 = .ok (.ldc2_w 284, 3) := by decide +kernel
theorem dX9_digest_137 : decode cX9_digest 137 = .ok (.lload_n 1, 1) := by decide +kernel
theorem dX9_digest_138 : decode cX9_digest 138 = .ok (.lmul, 1) := by decide +kernel
theorem dX9_digest_139 : decode cX9_digest 139 = .ok (.aload_n 0, 1) := by decide +kernel
theorem dX9_digest_140 : decode cX9_digest 140 = .ok (.iload_n 3, 1) := by decide +kernel
theorem dX9_digest_141 : decode cX9_digest 141 = .ok (.iload 4, 2) := by decide +kernel
theorem dX9_digest_143 : decode cX9_digest 143 = .ok (.bipush 100, 2) := by decide +kernel
theorem dX9_digest_145 : decode cX9_digest 145 = .ok (.invokevirtual 267, 3) := by decide +kernel
theorem dX9_digest_148 : decode cX9_digest 148 = .ok (.i2l, 1) := by decide +kernel
theorem dX9_digest_149 : decode cX9_digest 149 = .ok (.ladd, 1) := by decide +kernel
theorem dX9_digest_150 : decode cX9_digest 150 = .ok (.lstore_n 1, 1) := by decide +kernel
theorem dX9_digest_151 : decode cX9_digest 151 = .ok (.iinc 4 1, 3) := by decide +kernel
theorem dX9_digest_154 : decode cX9_digest 154 = .ok (.goto (-106), 3) := by decide +kernel
theorem dX9_digest_157 : decode cX9_digest 157 = .ok (.iinc 3 1, 3) := by decide +kernel
theorem dX9_digest_160 : decode cX9_digest 160 = .ok (.goto (-122), 3) := by decide +kernel
theorem dX9_digest_163 : decode cX9_digest 163 = .ok (.iconst 0, 1) := by decide +kernel
theorem dX9_digest_164 : decode cX9_digest 164 = .ok (.istore_n 3, 1) := by decide +kernel
theorem dX9_digest_165 : decode cX9_digest 165 = .ok (.iload_n 3, 1) := by decide +kernel
theorem dX9_digest_166 : decode cX9_digest 166 = .ok (.bipush 37, 2) := by decide +kernel
theorem dX9_digest_168 : decode cX9_digest 168 = .ok (.if_icmp .ge 47, 3) := by decide +kernel
theorem dX9_digest_171 : decode cX9_digest 171 = .ok (.iconst 0, 1) := by decide +kernel
theorem dX9_digest_172 : decode cX9_digest 172 = .ok (.istore 4, 2) := by decide +kernel
theorem dX9_digest_174 : decode cX9_digest 174 = .ok (.iload 4, 2) := by decide +kernel
theorem dX9_digest_176 : decode cX9_digest 176 = .ok (.iconst 4, 1) := by decide +kernel
theorem dX9_digest_177 : decode cX9_digest 177 = .ok (.if_icmp .ge 32, 3) := by decide +kernel
theorem dX9_digest_180 : decode cX9_digest 180 = .ok (.aload_n 0, 1) := by decide +kernel
theorem dX9_digest_181 : decode cX9_digest 181 = .ok (.iload_n 3, 1) := by decide +kernel
theorem dX9_digest_182 : decode cX9_digest 182 = .ok (.invokevirtual 89, 3) := by decide +kernel
theorem dX9_digest_185 : decode cX9_digest 185 = .ok (.ifCond .eq 24, 3) := by decide +kernel
theorem dX9_digest_188 : decode cX9_digest 188 = .ok (.ldc2_w 284, 3) := by decide +kernel
theorem dX9_digest_191 : decode cX9_digest 191 = .ok (.lload_n 1, 1) := by decide +kernel
theorem dX9_digest_192 : decode cX9_digest 192 = .ok (.lmul, 1) := by decide +kernel
theorem dX9_digest_193 : decode cX9_digest 193 = .ok (.aload_n 0, 1) := by decide +kernel
theorem dX9_digest_194 : decode cX9_digest 194 = .ok (.iload_n 3, 1) := by decide +kernel
theorem dX9_digest_195 : decode cX9_digest 195 = .ok (.iload 4, 2) := by decide +kernel
theorem dX9_digest_197 : decode cX9_digest 197 = .ok (.invokevirtual 232, 3) := by decide +kernel
theorem dX9_digest_200 : decode cX9_digest 200 = .ok (.i2l, 1) := by decide +kernel
theorem dX9_digest_201 : decode cX9_digest 201 = .ok (.ladd, 1) := by decide +kernel
theorem dX9_digest_202 : decode cX9_digest 202 = .ok (.lstore_n 1, 1) := by decide +kernel
theorem dX9_digest_203 : decode cX9_digest 203 = .ok (.iinc 4 1, 3) := by decide +kernel
theorem dX9_digest_206 : decode cX9_digest 206 = .ok (.goto (-32), 3) := by decide +kernel
theorem dX9_digest_209 : decode cX9_digest 209 = .ok (.iinc 3 1, 3) := by decide +kernel
theorem dX9_digest_212 : decode cX9_digest 212 = .ok (.goto (-47), 3) := by decide +kernel
theorem dX9_digest_215 : decode cX9_digest 215 = .ok (.iconst 0, 1) := by decide +kernel
theorem dX9_digest_216 : decode cX9_digest 216 = .ok (.istore_n 3, 1) := by decide +kernel
theorem dX9_digest_217 : decode cX9_digest 217 = .ok (.iload_n 3, 1) := by decide +kernel
theorem dX9_digest_218 : decode cX9_digest 218 = .ok (.aload_n 0, 1) := by decide +kernel
theorem dX9_digest_219 : decode cX9_digest 219 = .ok (.getfield 7, 3) := by decide +kernel
theorem dX9_digest_222 : decode cX9_digest 222 = .ok (.bipush 60, 2) := by decide +kernel
theorem dX9_digest_224 : decode cX9_digest 224 = .ok (.iaload, 1) := by decide +kernel
theorem dX9_digest_225 : decode cX9_digest 225 = .ok (.if_icmp .ge 39, 3) := by decide +kernel
theorem dX9_digest_228 : decode cX9_digest 228 = .ok (.iconst 0, 1) := by decide +kernel
theorem dX9_digest_229 : decode cX9_digest 229 = .ok (.istore 4, 2) := by decide +kernel
theorem dX9_digest_231 : decode cX9_digest 231 = .ok (.iload 4, 2) := by decide +kernel
theorem dX9_digest_233 : decode cX9_digest 233 = .ok (.iconst 4, 1) := by decide +kernel
theorem dX9_digest_234 : decode cX9_digest 234 = .ok (.if_icmp .ge 24, 3) := by decide +kernel
theorem dX9_digest_237 : decode cX9_digest 237 = .ok (.ldc2_w 284, 3) := by decide +kernel
theorem dX9_digest_240 : decode cX9_digest 240 = .ok (.lload_n 1, 1) := by decide +kernel
theorem dX9_digest_241 : decode cX9_digest 241 = .ok (.lmul, 1) := by decide +kernel
theorem dX9_digest_242 : decode cX9_digest 242 = .ok (.aload_n 0, 1) := by decide +kernel
theorem dX9_digest_243 : decode cX9_digest 243 = .ok (.iload_n 3, 1) := by decide +kernel
theorem dX9_digest_244 : decode cX9_digest 244 = .ok (.iload 4, 2) := by decide +kernel
theorem dX9_digest_246 : decode cX9_digest 246 = .ok (.invokevirtual 236, 3) := by decide +kernel
theorem dX9_digest_249 : decode cX9_digest 249 = .ok (.i2l, 1) := by decide +kernel
theorem dX9_digest_250 : decode cX9_digest 250 = .ok (.ladd, 1) := by decide +kernel
theorem dX9_digest_251 : decode cX9_digest 251 = .ok (.lstore_n 1, 1) := by decide +kernel
theorem dX9_digest_252 : decode cX9_digest 252 = .ok (.iinc 4 1, 3) := by decide +kernel
theorem dX9_digest_255 : decode cX9_digest 255 = .ok (.goto (-24), 3) := by decide +kernel
theorem dX9_digest_258 : decode cX9_digest 258 = .ok (.iinc 3 1, 3) := by decide +kernel
theorem dX9_digest_261 : decode cX9_digest 261 = .ok (.goto (-44), 3) := by decide +kernel
theorem dX9_digest_264 : decode cX9_digest 264 = .ok (.ldc2_w 284, 3) := by decide +kernel
theorem dX9_digest_267 : decode cX9_digest 267 = .ok (.lload_n 1, 1) := by decide +kernel
theorem dX9_digest_268 : decode cX9_digest 268 = .ok (.lmul, 1) := by decide +kernel
theorem dX9_digest_269 : decode cX9_digest 269 = .ok (.aload_n 0, 1) := by decide +kernel
theorem dX9_digest_270 : decode cX9_digest 270 = .ok (.iconst 0, 1) := by decide +kernel
theorem dX9_digest_271 : decode cX9_digest 271 = .ok (.invokevirtual 208, 3) := by decide +kernel
theorem dX9_digest_274 : decode cX9_digest 274 = .ok (.i2l, 1) := by decide +kernel
theorem dX9_digest_275 : decode cX9_digest 275 = .ok (.ladd, 1) := by decide +kernel
theorem dX9_digest_276 : decode cX9_digest 276 = .ok (.lstore_n 1, 1) := by decide +kernel
theorem dX9_digest_277 : decode cX9_digest 277 = .ok (.ldc2_w 284, 3) := by decide +kernel
theorem dX9_digest_280 : decode cX9_digest 280 = .ok (.lload_n 1, 1) := by decide +kernel
theorem dX9_digest_281 : decode cX9_digest 281 = .ok (.lmul, 1) := by decide +kernel
theorem dX9_digest_282 : decode cX9_digest 282 = .ok (.aload_n 0, 1) := by decide +kernel
theorem dX9_digest_283 : decode cX9_digest 283 = .ok (.iconst 1, 1) := by decide +kernel
theorem dX9_digest_284 : decode cX9_digest 284 = .ok (.invokevirtual 208, 3) := by decide +kernel
theorem dX9_digest_287 : decode cX9_digest 287 = .ok (.i2l, 1) := by decide +kernel
theorem dX9_digest_288 : decode cX9_digest 288 = .ok (.ladd, 1) := by decide +kernel
theorem dX9_digest_289 : decode cX9_digest 289 = .ok (.lstore_n 1, 1) := by decide +kernel
theorem dX9_digest_290 : decode cX9_digest 290 = .ok (.ldc2_w 284, 3) := by decide +kernel
theorem dX9_digest_293 : decode cX9_digest 293 = .ok (.lload_n 1, 1) := by decide +kernel
theorem dX9_digest_294 : decode cX9_digest 294 = .ok (.lmul, 1) := by decide +kernel
theorem dX9_digest_295 : decode cX9_digest 295 = .ok (.aload_n 0, 1) := by decide +kernel
theorem dX9_digest_296 : decode cX9_digest 296 = .ok (.iconst 0, 1) := by decide +kernel
theorem dX9_digest_297 : decode cX9_digest 297 = .ok (.iconst 1, 1) := by decide +kernel
theorem dX9_digest_298 : decode cX9_digest 298 = .ok (.iconst 3, 1) := by decide +kernel
theorem dX9_digest_299 : decode cX9_digest 299 = .ok (.iconst 2, 1) := by decide +kernel
theorem dX9_digest_300 : decode cX9_digest 300 = .ok (.invokevirtual 124, 3) := by decide +kernel
theorem dX9_digest_303 : decode cX9_digest 303 = .ok (.i2l, 1) := by decide +kernel
theorem dX9_digest_304 : decode cX9_digest 304 = .ok (.ladd, 1) := by decide +kernel
theorem dX9_digest_305 : decode cX9_digest 305 = .ok (.lstore_n 1, 1) := by decide +kernel
theorem dX9_digest_306 : decode cX9_digest 306 = .ok (.ldc2_w 284, 3) := by decide +kernel
theorem dX9_digest_309 : decode cX9_digest 309 = .ok (.lload_n 1, 1) := by decide +kernel
theorem dX9_digest_310 : decode cX9_digest 310 = .ok (.lmul, 1) := by decide +kernel
theorem dX9_digest_311 : decode cX9_digest 311 = .ok (.aload_n 0, 1) := by decide +kernel
theorem dX9_digest_312 : decode cX9_digest 312 = .ok (.iconst 0, 1) := by decide +kernel
theorem dX9_digest_313 : decode cX9_digest 313 = .ok (.iconst 1, 1) := by decide +kernel
theorem dX9_digest_314 : decode cX9_digest 314 = .ok (.invokevirtual 66, 3) := by decide +kernel
theorem dX9_digest_317 : decode cX9_digest 317 = .ok (.ifCond .eq 16, 3) := by decide +kernel
theorem dX9_digest_320 : decode cX9_digest 320 = .ok (.aload_n 0, 1) := by decide +kernel
theorem dX9_digest_321 : decode cX9_digest 321 = .ok (.iconst 0, 1) := by decide +kernel
theorem dX9_digest_322 : decode cX9_digest 322 = .ok (.iconst 1, 1) := by decide +kernel
theorem dX9_digest_323 : decode cX9_digest 323 = .ok (.ldc2_w 137, 3) := by decide +kernel
theorem dX9_digest_326 : decode cX9_digest 326 = .ok (.invokevirtual 133, 3) := by decide +kernel
theorem dX9_digest_329 : decode cX9_digest 329 = .ok (.l2i, 1) := by decide +kernel
theorem dX9_digest_330 : decode cX9_digest 330 = .ok (.goto 4, 3) := by decide +kernel
theorem dX9_digest_333 : decode cX9_digest 333 = .ok (.iconst (-1), 1) := by decide +kernel
theorem dX9_digest_334 : decode cX9_digest 334 = .ok (.i2l, 1) := by decide +kernel
theorem dX9_digest_335 : decode cX9_digest 335 = .ok (.ladd, 1) := by decide +kernel
theorem dX9_digest_336 : decode cX9_digest 336 = .ok (.lstore_n 1, 1) := by decide +kernel
theorem dX9_digest_337 : decode cX9_digest 337 = .ok (.ldc2_w 284, 3) := by decide +kernel
theorem dX9_digest_340 : decode cX9_digest 340 = .ok (.lload_n 1, 1) := by decide +kernel
theorem dX9_digest_341 : decode cX9_digest 341 = .ok (.lmul, 1) := by decide +kernel
theorem dX9_digest_342 : decode cX9_digest 342 = .ok (.aload_n 0, 1) := by decide +kernel
theorem dX9_digest_343 : decode cX9_digest 343 = .ok (.invokevirtual 278, 3) := by decide +kernel
theorem dX9_digest_346 : decode cX9_digest 346 = .ok (.invokestatic 286, 3) := by decide +kernel
theorem dX9_digest_349 : decode cX9_digest 349 = .ok (.ladd, 1) := by decide +kernel
theorem dX9_digest_350 : decode cX9_digest 350 = .ok (.lstore_n 1, 1) := by decide +kernel
theorem dX9_digest_351 : decode cX9_digest 351 = .ok (.ldc2_w 284, 3) := by decide +kernel
theorem dX9_digest_354 : decode cX9_digest 354 = .ok (.lload_n 1, 1) := by decide +kernel
theorem dX9_digest_355 : decode cX9_digest 355 = .ok (.lmul, 1) := by decide +kernel
theorem dX9_digest_356 : decode cX9_digest 356 = .ok (.aload_n 0, 1) := by decide +kernel
theorem dX9_digest_357 : decode cX9_digest 357 = .ok (.getfield 159, 3) := by decide +kernel
theorem dX9_digest_360 : decode cX9_digest 360 = .ok (.i2l, 1) := by decide +kernel
theorem dX9_digest_361 : decode cX9_digest 361 = .ok (.ladd, 1) := by decide +kernel
theorem dX9_digest_362 : decode cX9_digest 362 = .ok (.lstore_n 1, 1) := by decide +kernel
theorem dX9_digest_363 : decode cX9_digest 363 = .ok (.iconst 0, 1) := by decide +kernel
theorem dX9_digest_364 : decode cX9_digest 364 = .ok (.istore_n 3, 1) := by decide +kernel
theorem dX9_digest_365 : decode cX9_digest 365 = .ok (.iload_n 3, 1) := by decide +kernel
theorem dX9_digest_366 : decode cX9_digest 366 = .ok (.aload_n 0, 1) := by decide +kernel
theorem dX9_digest_367 : decode cX9_digest 367 = .ok (.getfield 159, 3) := by decide +kernel
theorem dX9_digest_370 : decode cX9_digest 370 = .ok (.if_icmp .ge 23, 3) := by decide +kernel
theorem dX9_digest_373 : decode cX9_digest 373 = .ok (.ldc2_w 284, 3) := by decide +kernel
theorem dX9_digest_376 : decode cX9_digest 376 = .ok (.lload_n 1, 1) := by decide +kernel
theorem dX9_digest_377 : decode cX9_digest 377 = .ok (.lmul, 1) := by decide +kernel
theorem dX9_digest_378 : decode cX9_digest 378 = .ok (.aload_n 0, 1) := by decide +kernel
theorem dX9_digest_379 : decode cX9_digest 379 = .ok (.getfield 19, 3) := by decide +kernel
theorem dX9_digest_382 : decode cX9_digest 382 = .ok (.iload_n 3, 1) := by decide +kernel
theorem dX9_digest_383 : decode cX9_digest 383 = .ok (.iaload, 1) := by decide +kernel
theorem dX9_digest_384 : decode cX9_digest 384 = .ok (.i2l, 1) := by decide +kernel
theorem dX9_digest_385 : decode cX9_digest 385 = .ok (.ladd, 1) := by decide +kernel
theorem dX9_digest_386 : decode cX9_digest 386 = .ok (.lstore_n 1, 1) := by decide +kernel
theorem dX9_digest_387 : decode cX9_digest 387 = .ok (.iinc 3 1, 3) := by decide +kernel
theorem dX9_digest_390 : decode cX9_digest 390 = .ok (.goto (-25), 3) := by decide +kernel
theorem dX9_digest_393 : decode cX9_digest 393 = .ok (.lload_n 1, 1) := by decide +kernel
theorem dX9_digest_394 : decode cX9_digest 394 = .ok (.lreturn, 1) := by decide +kernel
