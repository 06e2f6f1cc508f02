theorem dX9_init_0 : decode cX9_init 0 = .ok (.aload_n 0, 1) := by decide +kernel
theorem dX9_init_1 : decode cX9_init 1 = .ok (.invokespecial 1, 3) := by decide +kernel
theorem dX9_init_4 : decode cX9_init 4 = .ok (.aload_n 0, 1) := by decide +kernel
theorem dX9_init_5 : decode cX9_init 5 = .ok (.bipush 65, 2) := by decide +kernel
theorem dX9_init_7 : decode cX9_init 7 = .ok (.newarray .int, 2) := by decide +kernel
theorem dX9_init_9 : decode cX9_init 9 = .ok (.putfield 7, 3) := by decide +kernel
theorem dX9_init_12 : decode cX9_init 12 = .ok (.aload_n 0, 1) := by decide +kernel
theorem dX9_init_13 : decode cX9_init 13 = .ok (.sipush 390, 3) := by decide +kernel
theorem dX9_init_16 : decode cX9_init 16 = .ok (.newarray .int, 2) := by decide +kernel
theorem dX9_init_18 : decode cX9_init 18 = .ok (.putfield 13, 3) := by decide +kernel
theorem dX9_init_21 : decode cX9_init 21 = .ok (.aload_n 0, 1) := by decide +kernel
theorem dX9_init_22 : decode cX9_init 22 = .ok (.bipush 65, 2) := by decide +kernel
theorem dX9_init_24 : decode cX9_init 24 = .ok (.newarray .int, 2) := by decide +kernel
theorem dX9_init_26 : decode cX9_init 26 = .ok (.putfield 16, 3) := by decide +kernel
theorem dX9_init_29 : decode cX9_init 29 = .ok (.aload_n 0, 1) := by decide +kernel
theorem dX9_init_30 : decode cX9_init 30 = .ok (.bipush 60, 2) := by decide +kernel
theorem dX9_init_32 : decode cX9_init 32 = .ok (.newarray .int, 2) := by decide +kernel
theorem dX9_init_34 : decode cX9_init 34 = .ok (.putfield 19, 3) := by decide +kernel
theorem dX9_init_37 : decode cX9_init 37 = .ok (.aload_n 0, 1) := by decide +kernel
theorem dX9_init_38 : decode cX9_init 38 = .ok (.bipush 37, 2) := by decide +kernel
theorem dX9_init_40 : decode cX9_init 40 = .ok (.newarray .int, 2) := by decide +kernel
theorem dX9_init_42 : decode cX9_init 42 = .ok (.putfield 22, 3) := by decide +kernel
theorem dX9_init_45 : decode cX9_init 45 = .ok (.aload_n 0, 1) := by decide +kernel
theorem dX9_init_46 : decode cX9_init 46 = .ok (.bipush 37, 2) := by decide +kernel
theorem dX9_init_48 : decode cX9_init 48 = .ok (.newarray .int, 2) := by decide +kernel
theorem dX9_init_50 : decode cX9_init 50 = .ok (.putfield 25, 3) := by decide +kernel
theorem dX9_init_53 : decode cX9_init 53 = .ok (.aload_n 0, 1) := by decide +kernel
theorem dX9_init_54 : decode cX9_init 54 = .ok (.iconst 5, 1) := by decide +kernel
theorem dX9_init_55 : decode cX9_init 55 = .ok (.newarray .long, 2) := by decide +kernel
theorem dX9_init_57 : decode cX9_init 57 = .ok (.putfield 28, 3) := by decide +kernel
theorem dX9_init_60 : decode cX9_init 60 = .ok (.aload_n 0, 1) := by decide +kernel
theorem dX9_init_61 : decode cX9_init 61 = .ok (.iconst 5, 1) := by decide +kernel
theorem dX9_init_62 : decode cX9_init 62 = .ok (.newarray .long, 2) := by decide +kernel
theorem dX9_init_64 : decode cX9_init 64 = .ok (.putfield 32, 3) := by decide +kernel
theorem dX9_init_67 : decode cX9_init 67 = .ok (.iconst 0, 1) := by decide +kernel
theorem dX9_init_68 : decode cX9_init 68 = .ok (.istore_n 1, 1) := by decide +kernel
theorem dX9_init_69 : decode cX9_init 69 = .ok (.iconst 3, 1) := by decide +kernel
theorem dX9_init_70 : decode cX9_init 70 = .ok (.istore_n 2, 1) := by decide +kernel
theorem dX9_init_71 : decode cX9_init 71 = .ok (.iload_n 2, 1) := by decide +kernel
theorem dX9_init_72 : decode cX9_init 72 = .ok (.bipush 6, 2) := by decide +kernel
theorem dX9_init_74 : decode cX9_init 74 = .ok (.if_icmp .ge 82, 3) := by decide +kernel
theorem dX9_init_77 : decode cX9_init 77 = .ok (.iload_n 2, 1) := by decide +kernel
theorem dX9_init_78 : decode cX9_init 78 = .ok (.iconst 3, 1) := by decide +kernel
theorem dX9_init_79 : decode cX9_init 79 = .ok (.if_icmp .ne 9, 3) := by decide +kernel
theorem dX9_init_82 : decode cX9_init 82 = .ok (.sipush 1000, 3) := by decide +kernel
theorem dX9_init_85 : decode cX9_init 85 = .ok (.goto 16, 3) := by decide +kernel
theorem dX9_init_88 : decode cX9_init 88 = .ok (.iload_n 2, 1) := by decide +kernel
theorem dX9_init_89 : decode cX9_init 89 = .ok (.iconst 4, 1) := by decide +kernel
theorem dX9_init_90 : decode cX9_init 90 = .ok (.if_icmp .ne 9, 3) := by decide +kernel
theorem dX9_init_93 : decode cX9_init 93 = .ok (.sipush 10000, 3) := by decide +kernel
theorem dX9_init_96 : decode cX9_init 96 = .ok (.goto 5, 3) := by decide +kernel
theorem dX9_init_99 : decode cX9_init 99 = .ok (.ldc 35, 2) := by decide +kernel
theorem dX9_init_101 : decode cX9_init 101 = .ok (.istore_n 3, 1) := by decide +kernel
theorem dX9_init_102 : decode cX9_init 102 = .ok (.iconst 0, 1) := by decide +kernel
theorem dX9_init_103 : decode cX9_init 103 = .ok (.istore 4, 2) := by decide +kernel
theorem dX9_init_105 : decode cX9_init 105 = .ok (.iload 4, 2) := by decide +kernel
theorem dX9_init_107 : decode cX9_init 107 = .ok (.iload_n 3, 1) := by decide +kernel
theorem dX9_init_108 : decode cX9_init 108 = .ok (.if_icmp .ge 42, 3) := by decide +kernel
theorem dX9_init_111 : decode cX9_init 111 = .ok (.iload_n 1, 1) := by decide +kernel
theorem dX9_init_112 : decode cX9_init 112 = .ok (.bipush 37, 2) := by decide +kernel
theorem dX9_init_114 : decode cX9_init 114 = .ok (.if_icmp .ge 30, 3) := by decide +kernel
theorem dX9_init_117 : decode cX9_init 117 = .ok (.iload 4, 2) := by decide +kernel
theorem dX9_init_119 : decode cX9_init 119 = .ok (.iload_n 2, 1) := by decide +kernel
theorem dX9_init_120 : decode cX9_init 120 = .ok (.invokestatic 36, 3) := by decide +kernel
theorem dX9_init_123 : decode cX9_init 123 = .ok (.ifCond .eq 21, 3) := by decide +kernel
theorem dX9_init_126 : decode cX9_init 126 = .ok (.aload_n 0, 1) := by decide +kernel
theorem dX9_init_127 : decode cX9_init 127 = .ok (.getfield 22, 3) := by decide +kernel
theorem dX9_init_130 : decode cX9_init 130 = .ok (.iload_n 1, 1) := by decide +kernel
theorem dX9_init_131 : decode cX9_init 131 = .ok (.iload_n 2, 1) := by decide +kernel
theorem dX9_init_132 : decode cX9_init 132 = .ok (.iastore, 1) := by decide +kernel
theorem dX9_init_133 : decode cX9_init 133 = .ok (.aload_n 0, 1) := by decide +kernel
theorem dX9_init_134 : decode cX9_init 134 = .ok (.getfield 25, 3) := by decide +kernel
theorem dX9_init_137 : decode cX9_init 137 = .ok (.iload_n 1, 1) := by decide +kernel
theorem dX9_init_138 : decode cX9_init 138 = .ok (.iload 4, 2) := by decide +kernel
theorem dX9_init_140 : decode cX9_init 140 = .ok (.iastore, 1) := by decide +kernel
theorem dX9_init_141 : decode cX9_init 141 = .ok (.iinc 1 1, 3) := by decide +kernel
theorem dX9_init_144 : decode cX9_init 144 = .ok (.iinc 4 1, 3) := by decide +kernel
theorem dX9_init_147 : decode cX9_init 147 = .ok (.goto (-42), 3) := by decide +kernel
theorem dX9_init_150 : decode cX9_init 150 = .ok (.iinc 2 1, 3) := by decide +kernel
theorem dX9_init_153 : decode cX9_init 153 = .ok (.goto (-82), 3) := by decide +kernel
theorem dX9_init_156 : decode cX9_init 156 = .ok (.iconst 0, 1) := by decide +kernel
theorem dX9_init_157 : decode cX9_init 157 = .ok (.istore_n 2, 1) := by decide +kernel
theorem dX9_init_158 : decode cX9_init 158 = .ok (.iload_n 2, 1) := by decide +kernel
theorem dX9_init_159 : decode cX9_init 159 = .ok (.iconst 5, 1) := by decide +kernel
theorem dX9_init_160 : decode cX9_init 160 = .ok (.if_icmp .ge 20, 3) := by decide +kernel
theorem dX9_init_163 : decode cX9_init 163 = .ok (.aload_n 0, 1) := by decide +kernel
theorem dX9_init_164 : decode cX9_init 164 = .ok (.getfield 7, 3) := by decide +kernel
theorem dX9_init_167 : decode cX9_init 167 = .ok (.bipush 20, 2) := by decide +kernel
theorem dX9_init_169 : decode cX9_init 169 = .ok (.iload_n 2, 1) := by decide +kernel
theorem dX9_init_170 : decode cX9_init 170 = .ok (.iadd, 1) := by decide +kernel
theorem dX9_init_171 : decode cX9_init 171 = .ok (.bipush 36, 2) := by decide +kernel
theorem dX9_init_173 : decode cX9_init 173 = .ok (.iastore, 1) := by decide +kernel
theorem dX9_init_174 : decode cX9_init 174 = .ok (.iinc 2 1, 3) := by decide +kernel
theorem dX9_init_177 : decode cX9_init 177 = .ok (.goto (-19), 3) := by decide +kernel
theorem dX9_init_180 : decode cX9_init 180 = .ok (.aload_n 0, 1) := by decide +kernel
theorem dX9_init_181 : decode cX9_init 181 = .ok (.getfield 7, 3) := by decide +kernel
theorem dX9_init_184 : decode cX9_init 184 = .ok (.bipush 27, 2) := by decide +kernel
theorem dX9_init_186 : decode cX9_init 186 = .ok (.iconst 4, 1) := by decide +kernel
theorem dX9_init_187 : decode cX9_init 187 = .ok (.iastore, 1) := by decide +kernel
theorem dX9_init_188 : decode cX9_init 188 = .ok (.return_, 1) := by decide +kernel
theorem dX9_thrown_0 : decode cX9_thrown 0 = .ok (.aload_n 0, 1) := by decide +kernel
theorem dX9_thrown_1 : decode cX9_thrown 1 = .ok (.getfield 40, 3) := by decide +kernel
theorem dX9_thrown_4 : decode cX9_thrown 4 = .ok (.ireturn, 1) := by decide +kernel
theorem dX9_refused_0 : decode cX9_refused 0 = .ok (.aload_n 0, 1) := by decide +kernel
theorem dX9_refused_1 : decode cX9_refused 1 = .ok (.iload_n 1, 1) := by decide +kernel
theorem dX9_refused_2 : decode cX9_refused 2 = .ok (.putfield 40, 3) := by decide +kernel
theorem dX9_refused_5 : decode cX9_refused 5 = .ok (.iload_n 1, 1) := by decide +kernel
theorem dX9_refused_6 : decode cX9_refused 6 = .ok (.ifCond .le 7, 3) := by decide +kernel
theorem dX9_refused_9 : decode cX9_refused 9 = .ok (.iconst 1, 1) := by decide +kernel
theorem dX9_refused_10 : decode cX9_refused 10 = .ok (.goto 4, 3) := by decide +kernel
theorem dX9_refused_13 : decode cX9_refused 13 = .ok (.iconst 0, 1) := by decide +kernel
theorem dX9_refused_14 : decode cX9_refused 14 = .ok (.ireturn, 1) := by decide +kernel
theorem dX9_in_0 : decode cX9_in 0 = .ok (.iload_n 0, 1) := by decide +kernel
theorem dX9_in_1 : decode cX9_in 1 = .ok (.iload_n 1, 1) := by decide +kernel
theorem dX9_in_2 : decode cX9_in 2 = .ok (.if_icmp .lt 12, 3) := by decide +kernel
theorem dX9_in_5 : decode cX9_in 5 = .ok (.iload_n 0, 1) := by decide +kernel
theorem dX9_in_6 : decode cX9_in 6 = .ok (.iload_n 2, 1) := by decide +kernel
theorem dX9_in_7 : decode cX9_in 7 = .ok (.if_icmp .gt 7, 3) := by decide +kernel
theorem dX9_in_10 : decode cX9_in 10 = .ok (.iconst 1, 1) := by decide +kernel
theorem dX9_in_11 : decode cX9_in 11 = .ok (.goto 4, 3) := by decide +kernel
theorem dX9_in_14 : decode cX9_in 14 = .ok (.iconst 0, 1) := by decide +kernel
theorem dX9_in_15 : decode cX9_in 15 = .ok (.ireturn, 1) := by decide +kernel
theorem dX9_isParish_0 : decode cX9_isParish 0 = .ok (.iload_n 0, 1) := by decide +kernel
theorem dX9_isParish_1 : decode cX9_isParish 1 = .ok (.iconst 0, 1) := by decide +kernel
theorem dX9_isParish_2 : decode cX9_isParish 2 = .ok (.iconst 4, 1) := by decide +kernel
theorem dX9_isParish_3 : decode cX9_isParish 3 = .ok (.invokestatic 44, 3) := by decide +kernel
theorem dX9_isParish_6 : decode cX9_isParish 6 = .ok (.ireturn, 1) := by decide +kernel
theorem dX9_isPart_0 : decode cX9_isPart 0 = .ok (.iload_n 0, 1) := by decide +kernel
theorem dX9_isPart_1 : decode cX9_isPart 1 = .ok (.iconst 1, 1) := by decide +kernel
theorem dX9_isPart_2 : decode cX9_isPart 2 = .ok (.bipush 99, 2) := by decide +kernel
theorem dX9_isPart_4 : decode cX9_isPart 4 = .ok (.invokestatic 44, 3) := by decide +kernel
theorem dX9_isPart_7 : decode cX9_isPart 7 = .ok (.ireturn, 1) := by decide +kernel
theorem dX9_isBolt_0 : decode cX9_isBolt 0 = .ok (.iload_n 1, 1) := by decide +kernel
theorem dX9_isBolt_1 : decode cX9_isBolt 1 = .ok (.iconst 0, 1) := by decide +kernel
theorem dX9_isBolt_2 : decode cX9_isBolt 2 = .ok (.aload_n 0, 1) := by decide +kernel
theorem dX9_isBolt_3 : decode cX9_isBolt 3 = .ok (.getfield 7, 3) := by decide +kernel
theorem dX9_isBolt_6 : decode cX9_isBolt 6 = .ok (.bipush 60, 2) := by decide +kernel
theorem dX9_isBolt_8 : decode cX9_isBolt 8 = .ok (.iaload, 1) := by decide +kernel
theorem dX9_isBolt_9 : decode cX9_isBolt 9 = .ok (.iconst 1, 1) := by decide +kernel
theorem dX9_isBolt_10 : decode cX9_isBolt 10 = .ok (.isub, 1) := by decide +kernel
theorem dX9_isBolt_11 : decode cX9_isBolt 11 = .ok (.invokestatic 44, 3) := by decide +kernel
theorem dX9_isBolt_14 : decode cX9_isBolt 14 = .ok (.ireturn, 1) := by decide +kernel
theorem dX9_saves_0 : decode cX9_saves 0 = .ok (.aload_n 0, 1) := by decide +kernel
theorem dX9_saves_1 : decode cX9_saves 1 = .ok (.getfield 48, 3) := by decide +kernel
theorem dX9_saves_4 : decode cX9_saves 4 = .ok (.bipush 6, 2) := by decide +kernel
theorem dX9_saves_6 : decode cX9_saves 6 = .ok (.if_icmp .ne 43, 3) := by decide +kernel
theorem dX9_saves_9 : decode cX9_saves 9 = .ok (.iconst 0, 1) := by decide +kernel
theorem dX9_saves_10 : decode cX9_saves 10 = .ok (.istore_n 1, 1) := by decide +kernel
theorem dX9_saves_11 : decode cX9_saves 11 = .ok (.iload_n 1, 1) := by decide +kernel
theorem dX9_saves_12 : decode cX9_saves 12 = .ok (.sipush 325, 3) := by decide +kernel
theorem dX9_saves_15 : decode cX9_saves 15 = .ok (.if_icmp .ge 24, 3) := by decide +kernel
theorem dX9_saves_18 : decode cX9_saves 18 = .ok (.aload_n 0, 1) := by decide +kernel
theorem dX9_saves_19 : decode cX9_saves 19 = .ok (.getfield 13, 3) := by decide +kernel
theorem dX9_saves_22 : decode cX9_saves 22 = .ok (.iload_n 1, 1) := by decide +kernel
theorem dX9_saves_23 : decode cX9_saves 23 = .ok (.aload_n 0, 1) := by decide +kernel
theorem dX9_saves_24 : decode cX9_saves 24 = .ok (.getfield 13, 3) := by decide +kernel
theorem dX9_saves_27 : decode cX9_saves 27 = .ok (.bipush 65, 2) := by decide +kernel
theorem dX9_saves_29 : decode cX9_saves 29 = .ok (.iload_n 1, 1) := by decide +kernel
theorem dX9_saves_30 : decode cX9_saves 30 = .ok (.iadd, 1) := by decide +kernel
theorem dX9_saves_31 : decode cX9_saves 31 = .ok (.iaload, 1) := by decide +kernel
theorem dX9_saves_32 : decode cX9_saves 32 = .ok (.iastore, 1) := by decide +kernel
theorem dX9_saves_33 : decode cX9_saves 33 = .ok (.iinc 1 1, 3) := by decide +kernel
theorem dX9_saves_36 : decode cX9_saves 36 = .ok (.goto (-25), 3) := by decide +kernel
theorem dX9_saves_39 : decode cX9_saves 39 = .ok (.aload_n 0, 1) := by decide +kernel
theorem dX9_saves_40 : decode cX9_saves 40 = .ok (.dup, 1) := by decide +kernel
theorem dX9_saves_41 : decode cX9_saves 41 = .ok (.getfield 48, 3) := by decide +kernel
theorem dX9_saves_44 : decode cX9_saves 44 = .ok (.iconst 1, 1) := by decide +kernel
theorem dX9_saves_45 : decode cX9_saves 45 = .ok (.isub, 1) := by decide +kernel
theorem dX9_saves_46 : decode cX9_saves 46 = .ok (.putfield 48, 3) := by decide +kernel
theorem dX9_saves_49 : decode cX9_saves 49 = .ok (.iconst 0, 1) := by decide +kernel
theorem dX9_saves_50 : decode cX9_saves 50 = .ok (.istore_n 1, 1) := by decide +kernel
theorem dX9_saves_51 : decode cX9_saves 51 = .ok (.iload_n 1, 1) := by decide +kernel
theorem dX9_saves_52 : decode cX9_saves 52 = .ok (.bipush 65, 2) := by decide +kernel
theorem dX9_saves_54 : decode cX9_saves 54 = .ok (.if_icmp .ge 29, 3) := by decide +kernel
theorem dX9_saves_57 : decode cX9_saves 57 = .ok (.aload_n 0, 1) := by decide +kernel
theorem dX9_saves_58 : decode cX9_saves 58 = .ok (.getfield 13, 3) := by decide +kernel
theorem dX9_saves_61 : decode cX9_saves 61 = .ok (.bipush 65, 2) := by decide +kernel
theorem dX9_saves_63 : decode cX9_saves 63 = .ok (.aload_n 0, 1) := by decide +kernel
theorem dX9_saves_64 : decode cX9_saves 64 = .ok (.getfield 48, 3) := by decide +kernel
theorem dX9_saves_67 : decode cX9_saves 67 = .ok (.imul, 1) := by decide +kernel
theorem dX9_saves_68 : decode cX9_saves 68 = .ok (.iload_n 1, 1) := by decide +kernel
theorem dX9_saves_69 : decode cX9_saves 69 = .ok (.iadd, 1) := by decide +kernel
theorem dX9_saves_70 : decode cX9_saves 70 = .ok (.aload_n 0, 1) := by decide +kernel
theorem dX9_saves_71 : decode cX9_saves 71 = .ok (.getfield 7, 3) := by decide +kernel
theorem dX9_saves_74 : decode cX9_saves 74 = .ok (.iload_n 1, 1) := by decide +kernel
theorem dX9_saves_75 : decode cX9_saves 75 = .ok (.iaload, 1) := by decide +kernel
theorem dX9_saves_76 : decode cX9_saves 76 = .ok (.iastore, 1) := by decide +kernel
theorem dX9_saves_77 : decode cX9_saves 77 = .ok (.iinc 1 1, 3) := by decide +kernel
theorem dX9_saves_80 : decode cX9_saves 80 = .ok (.goto (-29), 3) := by decide +kernel
theorem dX9_saves_83 : decode cX9_saves 83 = .ok (.aload_n 0, 1) := by decide +kernel
theorem dX9_saves_84 : decode cX9_saves 84 = .ok (.dup, 1) := by decide +kernel
theorem dX9_saves_85 : decode cX9_saves 85 = .ok (.getfield 48, 3) := by decide +kernel
theorem dX9_saves_88 : decode cX9_saves 88 = .ok (.iconst 1, 1) := by decide +kernel
theorem dX9_saves_89 : decode cX9_saves 89 = .ok (.iadd, 1) := by decide +kernel
theorem dX9_saves_90 : decode cX9_saves 90 = .ok (.putfield 48, 3) := by decide +kernel
theorem dX9_saves_93 : decode cX9_saves 93 = .ok (.return_, 1) := by decide +kernel
theorem dX9_at_0 : decode cX9_at 0 = .ok (.iload_n 0, 1) := by decide +kernel
theorem dX9_at_1 : decode cX9_at 1 = .ok (.istore_n 3, 1) := by decide +kernel
theorem dX9_at_2 : decode cX9_at 2 = .ok (.iload_n 1, 1) := by decide +kernel
theorem dX9_at_3 : decode cX9_at 3 = .ok (.iconst 1, 1) := by decide +kernel
theorem dX9_at_4 : decode cX9_at 4 = .ok (.isub, 1) := by decide +kernel
theorem dX9_at_5 : decode cX9_at 5 = .ok (.istore 4, 2) := by decide +kernel
theorem dX9_at_7 : decode cX9_at 7 = .ok (.iload 4, 2) := by decide +kernel
theorem dX9_at_9 : decode cX9_at 9 = .ok (.iload_n 2, 1) := by decide +kernel
theorem dX9_at_10 : decode cX9_at 10 = .ok (.if_icmp .le 14, 3) := by decide +kernel
theorem dX9_at_13 : decode cX9_at 13 = .ok (.iload_n 3, 1) := by decide +kernel
theorem dX9_at_14 : decode cX9_at 14 = .ok (.bipush 10, 2) := by decide +kernel
theorem dX9_at_16 : decode cX9_at 16 = .ok (.idiv, 1) := by decide +kernel
theorem dX9_at_17 : decode cX9_at 17 = .ok (.istore_n 3, 1) := by decide +kernel
theorem dX9_at_18 : decode cX9_at 18 = .ok (.iinc 4 (-1), 3) := by decide +kernel
theorem dX9_at_21 : decode cX9_at 21 = .ok (.goto (-14), 3) := by decide +kernel
theorem dX9_at_24 : decode cX9_at 24 = .ok (.iload_n 3, 1) := by decide +kernel
theorem dX9_at_25 : decode cX9_at 25 = .ok (.bipush 10, 2) := by decide +kernel
theorem dX9_at_27 : decode cX9_at 27 = .ok (.irem, 1) := by decide +kernel
theorem dX9_at_28 : decode cX9_at 28 = .ok (.ireturn, 1) := by decide +kernel
theorem dX9_isWay_0 : decode cX9_isWay 0 = .ok (.iconst 0, 1) := by decide +kernel
theorem dX9_isWay_1 : decode cX9_isWay 1 = .ok (.istore_n 2, 1) := by decide +kernel
theorem dX9_isWay_2 : decode cX9_isWay 2 = .ok (.iconst 0, 1) := by decide +kernel
theorem dX9_isWay_3 : decode cX9_isWay 3 = .ok (.istore_n 3, 1) := by decide +kernel
theorem dX9_isWay_4 : decode cX9_isWay 4 = .ok (.iload_n 3, 1) := by decide +kernel
theorem dX9_isWay_5 : decode cX9_isWay 5 = .ok (.iload_n 1, 1) := by decide +kernel
theorem dX9_isWay_6 : decode cX9_isWay 6 = .ok (.if_icmp .ge 44, 3) := by decide +kernel
theorem dX9_isWay_9 : decode cX9_isWay 9 = .ok (.iload_n 0, 1) := by decide +kernel
theorem dX9_isWay_10 : decode cX9_isWay 10 = .ok (.iload_n 1, 1) := by decide +kernel
theorem dX9_isWay_11 : decode cX9_isWay 11 = .ok (.iload_n 3, 1) := by decide +kernel
theorem dX9_isWay_12 : decode cX9_isWay 12 = .ok (.invokestatic 51, 3) := by decide +kernel
theorem dX9_isWay_15 : decode cX9_isWay 15 = .ok (.istore 4, 2) := by decide +kernel
theorem dX9_isWay_17 : decode cX9_isWay 17 = .ok (.iload 4, 2) := by decide +kernel
theorem dX9_isWay_19 : decode cX9_isWay 19 = .ok (.invokestatic 55, 3) := by decide +kernel
theorem dX9_isWay_22 : decode cX9_isWay 22 = .ok (.ifCond .eq 13, 3) := by decide +kernel
theorem dX9_isWay_25 : decode cX9_isWay 25 = .ok (.iload_n 2, 1) := by decide +kernel
theorem dX9_isWay_26 : decode cX9_isWay 26 = .ok (.iload 4, 2) := by decide +kernel
theorem dX9_isWay_28 : decode cX9_isWay 28 = .ok (.ishr, 1) := by decide +kernel
theorem dX9_isWay_29 : decode cX9_isWay 29 = .ok (.iconst 1, 1) := by decide +kernel
theorem dX9_isWay_30 : decode cX9_isWay 30 = .ok (.iand, 1) := by decide +kernel
theorem dX9_isWay_31 : decode cX9_isWay 31 = .ok (.iconst 1, 1) := by decide +kernel
theorem dX9_isWay_32 : decode cX9_isWay 32 = .ok (.if_icmp .ne 5, 3) := by decide +kernel
theorem dX9_isWay_35 : decode cX9_isWay 35 = .ok (.iconst 0, 1) := by decide +kernel
theorem dX9_isWay_36 : decode cX9_isWay 36 = .ok (.ireturn, 1) := by decide +kernel
theorem dX9_isWay_37 : decode cX9_isWay 37 = .ok (.iload_n 2, 1) := by decide +kernel
theorem dX9_isWay_38 : decode cX9_isWay 38 = .ok (.iconst 1, 1) := by decide +kernel
theorem dX9_isWay_39 : decode cX9_isWay 39 = .ok (.iload 4, 2) := by decide +kernel
theorem dX9_isWay_41 : decode cX9_isWay 41 = .ok (.ishl, 1) := by decide +kernel
theorem dX9_isWay_42 : decode cX9_isWay 42 = .ok (.ior, 1) := by decide +kernel
theorem dX9_isWay_43 : decode cX9_isWay 43 = .ok (.istore_n 2, 1) := by decide +kernel
theorem dX9_isWay_44 : decode cX9_isWay 44 = .ok (.iinc 3 1, 3) := by decide +kernel
theorem dX9_isWay_47 : decode cX9_isWay 47 = .ok (.goto (-43), 3) := by decide +kernel
theorem dX9_isWay_50 : decode cX9_isWay 50 = .ok (.iconst 1, 1) := by decide +kernel
theorem dX9_isWay_51 : decode cX9_isWay 51 = .ok (.ireturn, 1) := by decide +kernel
theorem dX9_isRing_0 : decode cX9_isRing 0 = .ok (.iload_n 0, 1) := by decide +kernel
theorem dX9_isRing_1 : decode cX9_isRing 1 = .ok (.iload_n 1, 1) := by decide +kernel
theorem dX9_isRing_2 : decode cX9_isRing 2 = .ok (.invokestatic 59, 3) := by decide +kernel
theorem dX9_isRing_5 : decode cX9_isRing 5 = .ok (.ifCond .eq 24, 3) := by decide +kernel
theorem dX9_isRing_8 : decode cX9_isRing 8 = .ok (.iload_n 0, 1) := by decide +kernel
theorem dX9_isRing_9 : decode cX9_isRing 9 = .ok (.iload_n 1, 1) := by decide +kernel
theorem dX9_isRing_10 : decode cX9_isRing 10 = .ok (.iconst 1, 1) := by decide +kernel
theorem dX9_isRing_11 : decode cX9_isRing 11 = .ok (.invokestatic 51, 3) := by decide +kernel
theorem dX9_isRing_14 : decode cX9_isRing 14 = .ok (.iload_n 0, 1) := by decide +kernel
theorem dX9_isRing_15 : decode cX9_isRing 15 = .ok (.iload_n 1, 1) := by decide +kernel
theorem dX9_isRing_16 : decode cX9_isRing 16 = .ok (.iload_n 1, 1) := by decide +kernel
theorem dX9_isRing_17 : decode cX9_isRing 17 = .ok (.iconst 1, 1) := by decide +kernel
theorem dX9_isRing_18 : decode cX9_isRing 18 = .ok (.isub, 1) := by decide +kernel
theorem dX9_isRing_19 : decode cX9_isRing 19 = .ok (.invokestatic 51, 3) := by decide +kernel
theorem dX9_isRing_22 : decode cX9_isRing 22 = .ok (.if_icmp .ge 7, 3) := by decide +kernel
theorem dX9_isRing_25 : decode cX9_isRing 25 = .ok (.iconst 1, 1) := by decide +kernel
theorem dX9_isRing_26 : decode cX9_isRing 26 = .ok (.goto 4, 3) := by decide +kernel
theorem dX9_isRing_29 : decode cX9_isRing 29 = .ok (.iconst 0, 1) := by decide +kernel
theorem dX9_isRing_30 : decode cX9_isRing 30 = .ok (.istore_n 2, 1) := by decide +kernel
theorem dX9_isRing_31 : decode cX9_isRing 31 = .ok (.iconst 1, 1) := by decide +kernel
theorem dX9_isRing_32 : decode cX9_isRing 32 = .ok (.istore_n 3, 1) := by decide +kernel
theorem dX9_isRing_33 : decode cX9_isRing 33 = .ok (.iload_n 3, 1) := by decide +kernel
theorem dX9_isRing_34 : decode cX9_isRing 34 = .ok (.iload_n 1, 1) := by decide +kernel
theorem dX9_isRing_35 : decode cX9_isRing 35 = .ok (.if_icmp .ge 34, 3) := by decide +kernel
theorem dX9_isRing_38 : decode cX9_isRing 38 = .ok (.iload_n 2, 1) := by decide +kernel
theorem dX9_isRing_39 : decode cX9_isRing 39 = .ok (.ifCond .eq 30, 3) := by decide +kernel
theorem dX9_isRing_42 : decode cX9_isRing 42 = .ok (.iload_n 0, 1) := by decide +kernel
theorem dX9_isRing_43 : decode cX9_isRing 43 = .ok (.iload_n 1, 1) := by decide +kernel
theorem dX9_isRing_44 : decode cX9_isRing 44 = .ok (.iconst 0, 1) := by decide +kernel
theorem dX9_isRing_45 : decode cX9_isRing 45 = .ok (.invokestatic 51, 3) := by decide +kernel
theorem dX9_isRing_48 : decode cX9_isRing 48 = .ok (.iload_n 0, 1) := by decide +kernel
theorem dX9_isRing_49 : decode cX9_isRing 49 = .ok (.iload_n 1, 1) := by decide +kernel
theorem dX9_isRing_50 : decode cX9_isRing 50 = .ok (.iload_n 3, 1) := by decide +kernel
theorem dX9_isRing_51 : decode cX9_isRing 51 = .ok (.invokestatic 51, 3) := by decide +kernel
theorem dX9_isRing_54 : decode cX9_isRing 54 = .ok (.if_icmp .ge 7, 3) := by decide +kernel
theorem dX9_isRing_57 : decode cX9_isRing 57 = .ok (.iconst 1, 1) := by decide +kernel
theorem dX9_isRing_58 : decode cX9_isRing 58 = .ok (.goto 4, 3) := by decide +kernel
theorem dX9_isRing_61 : decode cX9_isRing 61 = .ok (.iconst 0, 1) := by decide +kernel
theorem dX9_isRing_62 : decode cX9_isRing 62 = .ok (.istore_n 2, 1) := by decide +kernel
theorem dX9_isRing_63 : decode cX9_isRing 63 = .ok (.iinc 3 1, 3) := by decide +kernel
theorem dX9_isRing_66 : decode cX9_isRing 66 = .ok (.goto (-33), 3) := by decide +kernel
theorem dX9_isRing_69 : decode cX9_isRing 69 = .ok (.iload_n 2, 1) := by decide +kernel
theorem dX9_isRing_70 : decode cX9_isRing 70 = .ok (.ireturn, 1) := by decide +kernel
theorem dX9_pair_0 : decode cX9_pair 0 = .ok (.iload_n 0, 1) := by decide +kernel
theorem dX9_pair_1 : decode cX9_pair 1 = .ok (.iload_n 1, 1) := by decide +kernel
theorem dX9_pair_2 : decode cX9_pair 2 = .ok (.if_icmp .ge 7, 3) := by decide +kernel
theorem dX9_pair_5 : decode cX9_pair 5 = .ok (.iload_n 0, 1) := by decide +kernel
theorem dX9_pair_6 : decode cX9_pair 6 = .ok (.goto 4, 3) := by decide +kernel
theorem dX9_pair_9 : decode cX9_pair 9 = .ok (.iload_n 1, 1) := by decide +kernel
theorem dX9_pair_10 : decode cX9_pair 10 = .ok (.istore_n 2, 1) := by decide +kernel
theorem dX9_pair_11 : decode cX9_pair 11 = .ok (.iload_n 0, 1) := by decide +kernel
theorem dX9_pair_12 : decode cX9_pair 12 = .ok (.iload_n 1, 1) := by decide +kernel
theorem dX9_pair_13 : decode cX9_pair 13 = .ok (.if_icmp .ge 7, 3) := by decide +kernel
theorem dX9_pair_16 : decode cX9_pair 16 = .ok (.iload_n 1, 1) := by decide +kernel
theorem dX9_pair_17 : decode cX9_pair 17 = .ok (.goto 4, 3) := by decide +kernel
theorem dX9_pair_20 : decode cX9_pair 20 = .ok (.iload_n 0, 1) := by decide +kernel
theorem dX9_pair_21 : decode cX9_pair 21 = .ok (.istore_n 3, 1) := by decide +kernel
theorem dX9_pair_22 : decode cX9_pair 22 = .ok (.iload_n 2, 1) := by decide +kernel
theorem dX9_pair_23 : decode cX9_pair 23 = .ok (.iconst 4, 1) := by decide +kernel
theorem dX9_pair_24 : decode cX9_pair 24 = .ok (.imul, 1) := by decide +kernel
theorem dX9_pair_25 : decode cX9_pair 25 = .ok (.iload_n 2, 1) := by decide +kernel
theorem dX9_pair_26 : decode cX9_pair 26 = .ok (.iload_n 2, 1) := by decide +kernel
theorem dX9_pair_27 : decode cX9_pair 27 = .ok (.iconst 1, 1) := by decide +kernel
theorem dX9_pair_28 : decode cX9_pair 28 = .ok (.isub, 1) := by decide +kernel
theorem dX9_pair_29 : decode cX9_pair 29 = .ok (.imul, 1) := by decide +kernel
theorem dX9_pair_30 : decode cX9_pair 30 = .ok (.iconst 2, 1) := by decide +kernel
theorem dX9_pair_31 : decode cX9_pair 31 = .ok (.idiv, 1) := by decide +kernel
theorem dX9_pair_32 : decode cX9_pair 32 = .ok (.isub, 1) := by decide +kernel
theorem dX9_pair_33 : decode cX9_pair 33 = .ok (.iload_n 3, 1) := by decide +kernel
theorem dX9_pair_34 : decode cX9_pair 34 = .ok (.iadd, 1) := by decide +kernel
theorem dX9_pair_35 : decode cX9_pair 35 = .ok (.iload_n 2, 1) := by decide +kernel
theorem dX9_pair_36 : decode cX9_pair 36 = .ok (.isub, 1) := by decide +kernel
theorem dX9_pair_37 : decode cX9_pair 37 = .ok (.iconst 1, 1) := by decide +kernel
theorem dX9_pair_38 : decode cX9_pair 38 = .ok (.isub, 1) := by decide +kernel
theorem dX9_pair_39 : decode cX9_pair 39 = .ok (.ireturn, 1) := by decide +kernel
theorem dX9_has_0 : decode cX9_has 0 = .ok (.iload_n 1, 1) := by decide +kernel
theorem dX9_has_1 : decode cX9_has 1 = .ok (.iload_n 2, 1) := by decide +kernel
theorem dX9_has_2 : decode cX9_has 2 = .ok (.if_icmp .eq 22, 3) := by decide +kernel
theorem dX9_has_5 : decode cX9_has 5 = .ok (.aload_n 0, 1) := by decide +kernel
theorem dX9_has_6 : decode cX9_has 6 = .ok (.getfield 7, 3) := by decide +kernel
theorem dX9_has_9 : decode cX9_has 9 = .ok (.iconst 0, 1) := by decide +kernel
theorem dX9_has_10 : decode cX9_has 10 = .ok (.iload_n 1, 1) := by decide +kernel
theorem dX9_has_11 : decode cX9_has 11 = .ok (.iload_n 2, 1) := by decide +kernel
theorem dX9_has_12 : decode cX9_has 12 = .ok (.invokestatic 62, 3) := by decide +kernel
theorem dX9_has_15 : decode cX9_has 15 = .ok (.iadd, 1) := by decide +kernel
theorem dX9_has_16 : decode cX9_has 16 = .ok (.iaload, 1) := by decide +kernel
theorem dX9_has_17 : decode cX9_has 17 = .ok (.ifCond .le 7, 3) := by decide +kernel
theorem dX9_has_20 : decode cX9_has 20 = .ok (.iconst 1, 1) := by decide +kernel
theorem dX9_has_21 : decode cX9_has 21 = .ok (.goto 4, 3) := by decide +kernel
theorem dX9_has_24 : decode cX9_has 24 = .ok (.iconst 0, 1) := by decide +kernel
theorem dX9_has_25 : decode cX9_has 25 = .ok (.ireturn, 1) := by decide +kernel
theorem dX9_up_0 : decode cX9_up 0 = .ok (.aload_n 0, 1) := by decide +kernel
theorem dX9_up_1 : decode cX9_up 1 = .ok (.getfield 7, 3) := by decide +kernel
theorem dX9_up_4 : decode cX9_up 4 = .ok (.iload_n 1, 1) := by decide +kernel
theorem dX9_up_5 : decode cX9_up 5 = .ok (.iload_n 2, 1) := by decide +kernel
theorem dX9_up_6 : decode cX9_up 6 = .ok (.if_icmp .ge 7, 3) := by decide +kernel
theorem dX9_up_9 : decode cX9_up 9 = .ok (.iconst 0, 1) := by decide +kernel
theorem dX9_up_10 : decode cX9_up 10 = .ok (.goto 5, 3) := by decide +kernel
theorem dX9_up_13 : decode cX9_up 13 = .ok (.bipush 10, 2) := by decide +kernel
theorem dX9_up_15 : decode cX9_up 15 = .ok (.iload_n 1, 1) := by decide +kernel
theorem dX9_up_16 : decode cX9_up 16 = .ok (.iload_n 2, 1) := by decide +kernel
theorem dX9_up_17 : decode cX9_up 17 = .ok (.invokestatic 62, 3) := by decide +kernel
theorem dX9_up_20 : decode cX9_up 20 = .ok (.iadd, 1) := by decide +kernel
theorem dX9_up_21 : decode cX9_up 21 = .ok (.iaload, 1) := by decide +kernel
theorem dX9_up_22 : decode cX9_up 22 = .ok (.ireturn, 1) := by decide +kernel
theorem dX9_down_0 : decode cX9_down 0 = .ok (.aload_n 0, 1) := by decide +kernel
theorem dX9_down_1 : decode cX9_down 1 = .ok (.getfield 7, 3) := by decide +kernel
theorem dX9_down_4 : decode cX9_down 4 = .ok (.iload_n 1, 1) := by decide +kernel
theorem dX9_down_5 : decode cX9_down 5 = .ok (.iload_n 2, 1) := by decide +kernel
theorem dX9_down_6 : decode cX9_down 6 = .ok (.if_icmp .ge 8, 3) := by decide +kernel
theorem dX9_down_9 : decode cX9_down 9 = .ok (.bipush 10, 2) := by decide +kernel
theorem dX9_down_11 : decode cX9_down 11 = .ok (.goto 4, 3) := by decide +kernel
theorem dX9_down_14 : decode cX9_down 14 = .ok (.iconst 0, 1) := by decide +kernel
theorem dX9_down_15 : decode cX9_down 15 = .ok (.iload_n 1, 1) := by decide +kernel
theorem dX9_down_16 : decode cX9_down 16 = .ok (.iload_n 2, 1) := by decide +kernel
theorem dX9_down_17 : decode cX9_down 17 = .ok (.invokestatic 62, 3) := by decide +kernel
theorem dX9_down_20 : decode cX9_down 20 = .ok (.iadd, 1) := by decide +kernel
theorem dX9_down_21 : decode cX9_down 21 = .ok (.iaload, 1) := by decide +kernel
theorem dX9_down_22 : decode cX9_down 22 = .ok (.ireturn, 1) := by decide +kernel
theorem dX9_puts_0 : decode cX9_puts 0 = .ok (.aload_n 0, 1) := by decide +kernel
theorem dX9_puts_1 : decode cX9_puts 1 = .ok (.getfield 7, 3) := by decide +kernel
theorem dX9_puts_4 : decode cX9_puts 4 = .ok (.iconst 0, 1) := by decide +kernel
theorem dX9_puts_5 : decode cX9_puts 5 = .ok (.iload_n 1, 1) := by decide +kernel
theorem dX9_puts_6 : decode cX9_puts 6 = .ok (.iload_n 2, 1) := by decide +kernel
theorem dX9_puts_7 : decode cX9_puts 7 = .ok (.invokestatic 62, 3) := by decide +kernel
theorem dX9_puts_10 : decode cX9_puts 10 = .ok (.iadd, 1) := by decide +kernel
theorem dX9_puts_11 : decode cX9_puts 11 = .ok (.iload_n 1, 1) := by decide +kernel
theorem dX9_puts_12 : decode cX9_puts 12 = .ok (.iload_n 2, 1) := by decide +kernel
theorem dX9_puts_13 : decode cX9_puts 13 = .ok (.if_icmp .ge 7, 3) := by decide +kernel
theorem dX9_puts_16 : decode cX9_puts 16 = .ok (.iload_n 3, 1) := by decide +kernel
theorem dX9_puts_17 : decode cX9_puts 17 = .ok (.goto 5, 3) := by decide +kernel
theorem dX9_puts_20 : decode cX9_puts 20 = .ok (.iload 4, 2) := by decide +kernel
theorem dX9_puts_22 : decode cX9_puts 22 = .ok (.iastore, 1) := by decide +kernel
theorem dX9_puts_23 : decode cX9_puts 23 = .ok (.aload_n 0, 1) := by decide +kernel
theorem dX9_puts_24 : decode cX9_puts 24 = .ok (.getfield 7, 3) := by decide +kernel
theorem dX9_puts_27 : decode cX9_puts 27 = .ok (.bipush 10, 2) := by decide +kernel
theorem dX9_puts_29 : decode cX9_puts 29 = .ok (.iload_n 1, 1) := by decide +kernel
theorem dX9_puts_30 : decode cX9_puts 30 = .ok (.iload_n 2, 1) := by decide +kernel
theorem dX9_puts_31 : decode cX9_puts 31 = .ok (.invokestatic 62, 3) := by decide +kernel
theorem dX9_puts_34 : decode cX9_puts 34 = .ok (.iadd, 1) := by decide +kernel
theorem dX9_puts_35 : decode cX9_puts 35 = .ok (.iload_n 1, 1) := by decide +kernel
theorem dX9_puts_36 : decode cX9_puts 36 = .ok (.iload_n 2, 1) := by decide +kernel
theorem dX9_puts_37 : decode cX9_puts 37 = .ok (.if_icmp .ge 8, 3) := by decide +kernel
theorem dX9_puts_40 : decode cX9_puts 40 = .ok (.iload 4, 2) := by decide +kernel
theorem dX9_puts_42 : decode cX9_puts 42 = .ok (.goto 4, 3) := by decide +kernel
theorem dX9_puts_45 : decode cX9_puts 45 = .ok (.iload_n 3, 1) := by decide +kernel
theorem dX9_puts_46 : decode cX9_puts 46 = .ok (.iastore, 1) := by decide +kernel
theorem dX9_puts_47 : decode cX9_puts 47 = .ok (.return_, 1) := by decide +kernel
theorem dX9_isThere_0 : decode cX9_isThere 0 = .ok (.iconst 1, 1) := by decide +kernel
theorem dX9_isThere_1 : decode cX9_isThere 1 = .ok (.istore_n 2, 1) := by decide +kernel
theorem dX9_isThere_2 : decode cX9_isThere 2 = .ok (.iconst 0, 1) := by decide +kernel
theorem dX9_isThere_3 : decode cX9_isThere 3 = .ok (.istore_n 3, 1) := by decide +kernel
theorem dX9_isThere_4 : decode cX9_isThere 4 = .ok (.iload_n 3, 1) := by decide +kernel
theorem dX9_isThere_5 : decode cX9_isThere 5 = .ok (.aload_n 0, 1) := by decide +kernel
theorem dX9_isThere_6 : decode cX9_isThere 6 = .ok (.getfield 22, 3) := by decide +kernel
theorem dX9_isThere_9 : decode cX9_isThere 9 = .ok (.iload_n 1, 1) := by decide +kernel
theorem dX9_isThere_10 : decode cX9_isThere 10 = .ok (.iaload, 1) := by decide +kernel
theorem dX9_isThere_11 : decode cX9_isThere 11 = .ok (.if_icmp .ge 67, 3) := by decide +kernel
theorem dX9_isThere_14 : decode cX9_isThere 14 = .ok (.iload_n 2, 1) := by decide +kernel
theorem dX9_isThere_15 : decode cX9_isThere 15 = .ok (.ifCond .eq 55, 3) := by decide +kernel
theorem dX9_isThere_18 : decode cX9_isThere 18 = .ok (.aload_n 0, 1) := by decide +kernel
theorem dX9_isThere_19 : decode cX9_isThere 19 = .ok (.aload_n 0, 1) := by decide +kernel
theorem dX9_isThere_20 : decode cX9_isThere 20 = .ok (.getfield 25, 3) := by decide +kernel
theorem dX9_isThere_23 : decode cX9_isThere 23 = .ok (.iload_n 1, 1) := by decide +kernel
theorem dX9_isThere_24 : decode cX9_isThere 24 = .ok (.iaload, 1) := by decide +kernel
theorem dX9_isThere_25 : decode cX9_isThere 25 = .ok (.aload_n 0, 1) := by decide +kernel
theorem dX9_isThere_26 : decode cX9_isThere 26 = .ok (.getfield 22, 3) := by decide +kernel
theorem dX9_isThere_29 : decode cX9_isThere 29 = .ok (.iload_n 1, 1) := by decide +kernel
theorem dX9_isThere_30 : decode cX9_isThere 30 = .ok (.iaload, 1) := by decide +kernel
theorem dX9_isThere_31 : decode cX9_isThere 31 = .ok (.iload_n 3, 1) := by decide +kernel
theorem dX9_isThere_32 : decode cX9_isThere 32 = .ok (.invokestatic 51, 3) := by decide +kernel
theorem dX9_isThere_35 : decode cX9_isThere 35 = .ok (.aload_n 0, 1) := by decide +kernel
theorem dX9_isThere_36 : decode cX9_isThere 36 = .ok (.getfield 25, 3) := by decide +kernel
theorem dX9_isThere_39 : decode cX9_isThere 39 = .ok (.iload_n 1, 1) := by decide +kernel
theorem dX9_isThere_40 : decode cX9_isThere 40 = .ok (.iaload, 1) := by decide +kernel
theorem dX9_isThere_41 : decode cX9_isThere 41 = .ok (.aload_n 0, 1) := by decide +kernel
theorem dX9_isThere_42 : decode cX9_isThere 42 = .ok (.getfield 22, 3) := by decide +kernel
theorem dX9_isThere_45 : decode cX9_isThere 45 = .ok (.iload_n 1, 1) := by decide +kernel
theorem dX9_isThere_46 : decode cX9_isThere 46 = .ok (.iaload, 1) := by decide +kernel
theorem dX9_isThere_47 : decode cX9_isThere 47 = .ok (.iload_n 3, 1) := by decide +kernel
theorem dX9_isThere_48 : decode cX9_isThere 48 = .ok (.iconst 1, 1) := by decide +kernel
theorem dX9_isThere_49 : decode cX9_isThere 49 = .ok (.iadd, 1) := by decide +kernel
theorem dX9_isThere_50 : decode cX9_isThere 50 = .ok (.aload_n 0, 1) := by decide +kernel
theorem dX9_isThere_51 : decode cX9_isThere 51 = .ok (.getfield 22, 3) := by decide +kernel
theorem dX9_isThere_54 : decode cX9_isThere 54 = .ok (.iload_n 1, 1) := by decide +kernel
theorem dX9_isThere_55 : decode cX9_isThere 55 = .ok (.iaload, 1) := by decide +kernel
theorem dX9_isThere_56 : decode cX9_isThere 56 = .ok (.irem, 1) := by decide +kernel
theorem dX9_isThere_57 : decode cX9_isThere 57 = .ok (.invokestatic 51, 3) := by decide +kernel
theorem dX9_isThere_60 : decode cX9_isThere 60 = .ok (.invokevirtual 66, 3) := by decide +kernel
theorem dX9_isThere_63 : decode cX9_isThere 63 = .ok (.ifCond .eq 7, 3) := by decide +kernel
theorem dX9_isThere_66 : decode cX9_isThere 66 = .ok (.iconst 1, 1) := by decide +kernel
theorem dX9_isThere_67 : decode cX9_isThere 67 = .ok (.goto 4, 3) := by decide +kernel
theorem dX9_isThere_70 : decode cX9_isThere 70 = .ok (.iconst 0, 1) := by decide +kernel
theorem dX9_isThere_71 : decode cX9_isThere 71 = .ok (.istore_n 2, 1) := by decide +kernel
theorem dX9_isThere_72 : decode cX9_isThere 72 = .ok (.iinc 3 1, 3) := by decide +kernel
theorem dX9_isThere_75 : decode cX9_isThere 75 = .ok (.goto (-71), 3) := by decide +kernel
theorem dX9_isThere_78 : decode cX9_isThere 78 = .ok (.iload_n 2, 1) := by decide +kernel
theorem dX9_isThere_79 : decode cX9_isThere 79 = .ok (.ireturn, 1) := by decide +kernel
theorem dX9_hasTable_0 : decode cX9_hasTable 0 = .ok (.iconst 0, 1) := by decide +kernel
theorem dX9_hasTable_1 : decode cX9_hasTable 1 = .ok (.istore 4, 2) := by decide +kernel
theorem dX9_hasTable_3 : decode cX9_hasTable 3 = .ok (.iconst 0, 1) := by decide +kernel
theorem dX9_hasTable_4 : decode cX9_hasTable 4 = .ok (.istore 5, 2) := by decide +kernel
theorem dX9_hasTable_6 : decode cX9_hasTable 6 = .ok (.iload 5, 2) := by decide +kernel
theorem dX9_hasTable_8 : decode cX9_hasTable 8 = .ok (.aload_n 0, 1) := by decide +kernel
theorem dX9_hasTable_9 : decode cX9_hasTable 9 = .ok (.getfield 22, 3) := by decide +kernel
theorem dX9_hasTable_12 : decode cX9_hasTable 12 = .ok (.iload_n 1, 1) := by decide +kernel
theorem dX9_hasTable_13 : decode cX9_hasTable 13 = .ok (.iaload, 1) := by decide +kernel
theorem dX9_hasTable_14 : decode cX9_hasTable 14 = .ok (.if_icmp .ge 92, 3) := by decide +kernel
theorem dX9_hasTable_17 : decode cX9_hasTable 17 = .ok (.aload_n 0, 1) := by decide +kernel
theorem dX9_hasTable_18 : decode cX9_hasTable 18 = .ok (.getfield 25, 3) := by decide +kernel
theorem dX9_hasTable_21 : decode cX9_hasTable 21 = .ok (.iload_n 1, 1) := by decide +kernel
theorem dX9_hasTable_22 : decode cX9_hasTable 22 = .ok (.iaload, 1) := by decide +kernel
theorem dX9_hasTable_23 : decode cX9_hasTable 23 = .ok (.aload_n 0, 1) := by decide +kernel
theorem dX9_hasTable_24 : decode cX9_hasTable 24 = .ok (.getfield 22, 3) := by decide +kernel
theorem dX9_hasTable_27 : decode cX9_hasTable 27 = .ok (.iload_n 1, 1) := by decide +kernel
theorem dX9_hasTable_28 : decode cX9_hasTable 28 = .ok (.iaload, 1) := by decide +kernel
theorem dX9_hasTable_29 : decode cX9_hasTable 29 = .ok (.iload 5, 2) := by decide +kernel
theorem dX9_hasTable_31 : decode cX9_hasTable 31 = .ok (.invokestatic 51, 3) := by decide +kernel
theorem dX9_hasTable_34 : decode cX9_hasTable 34 = .ok (.istore 6, 2) := by decide +kernel
theorem dX9_hasTable_36 : decode cX9_hasTable 36 = .ok (.aload_n 0, 1) := by decide +kernel
theorem dX9_hasTable_37 : decode cX9_hasTable 37 = .ok (.getfield 25, 3) := by decide +kernel
theorem dX9_hasTable_40 : decode cX9_hasTable 40 = .ok (.iload_n 1, 1) := by decide +kernel
theorem dX9_hasTable_41 : decode cX9_hasTable 41 = .ok (.iaload, 1) := by decide +kernel
theorem dX9_hasTable_42 : decode cX9_hasTable 42 = .ok (.aload_n 0, 1) := by decide +kernel
theorem dX9_hasTable_43 : decode cX9_hasTable 43 = .ok (.getfield 22, 3) := by decide +kernel
theorem dX9_hasTable_46 : decode cX9_hasTable 46 = .ok (.iload_n 1, 1) := by decide +kernel
theorem dX9_hasTable_47 : decode cX9_hasTable 47 = .ok (.iaload, 1) := by decide +kernel
theorem dX9_hasTable_48 : decode cX9_hasTable 48 = .ok (.iload 5, 2) := by decide +kernel
theorem dX9_hasTable_50 : decode cX9_hasTable 50 = .ok (.iconst 1, 1) := by decide +kernel
theorem dX9_hasTable_51 : decode cX9_hasTable 51 = .ok (.iadd, 1) := by decide +kernel
theorem dX9_hasTable_52 : decode cX9_hasTable 52 = .ok (.aload_n 0, 1) := by decide +kernel
theorem dX9_hasTable_53 : decode cX9_hasTable 53 = .ok (.getfield 22, 3) := by decide +kernel
theorem dX9_hasTable_56 : decode cX9_hasTable 56 = .ok (.iload_n 1, 1) := by decide +kernel
theorem dX9_hasTable_57 : decode cX9_hasTable 57 = .ok (.iaload, 1) := by decide +kernel
theorem dX9_hasTable_58 : decode cX9_hasTable 58 = .ok (.irem, 1) := by decide +kernel
theorem dX9_hasTable_59 : decode cX9_hasTable 59 = .ok (.invokestatic 51, 3) := by decide +kernel
theorem dX9_hasTable_62 : decode cX9_hasTable 62 = .ok (.istore 7, 2) := by decide +kernel
theorem dX9_hasTable_64 : decode cX9_hasTable 64 = .ok (.iload 4, 2) := by decide +kernel
theorem dX9_hasTable_66 : decode cX9_hasTable 66 = .ok (.ifCond .ne 27, 3) := by decide +kernel
theorem dX9_hasTable_69 : decode cX9_hasTable 69 = .ok (.iload 6, 2) := by decide +kernel
theorem dX9_hasTable_71 : decode cX9_hasTable 71 = .ok (.iload_n 2, 1) := by decide +kernel
theorem dX9_hasTable_72 : decode cX9_hasTable 72 = .ok (.if_icmp .ne 9, 3) := by decide +kernel
theorem dX9_hasTable_75 : decode cX9_hasTable 75 = .ok (.iload 7, 2) := by decide +kernel
theorem dX9_hasTable_77 : decode cX9_hasTable 77 = .ok (.iload_n 3, 1) := by decide +kernel
theorem dX9_hasTable_78 : decode cX9_hasTable 78 = .ok (.if_icmp .eq 15, 3) := by decide +kernel
theorem dX9_hasTable_81 : decode cX9_hasTable 81 = .ok (.iload 6, 2) := by decide +kernel
theorem dX9_hasTable_83 : decode cX9_hasTable 83 = .ok (.iload_n 3, 1) := by decide +kernel
theorem dX9_hasTable_84 : decode cX9_hasTable 84 = .ok (.if_icmp .ne 13, 3) := by decide +kernel
theorem dX9_hasTable_87 : decode cX9_hasTable 87 = .ok (.iload 7, 2) := by decide +kernel
theorem dX9_hasTable_89 : decode cX9_hasTable 89 = .ok (.iload_n 2, 1) := by decide +kernel
theorem dX9_hasTable_90 : decode cX9_hasTable 90 = .ok (.if_icmp .ne 7, 3) := by decide +kernel
theorem dX9_hasTable_93 : decode cX9_hasTable 93 = .ok (.iconst 1, 1) := by decide +kernel
theorem dX9_hasTable_94 : decode cX9_hasTable 94 = .ok (.goto 4, 3) := by decide +kernel
theorem dX9_hasTable_97 : decode cX9_hasTable 97 = .ok (.iconst 0, 1) := by decide +kernel
theorem dX9_hasTable_98 : decode cX9_hasTable 98 = .ok (.istore 4, 2) := by decide +kernel
theorem dX9_hasTable_100 : decode cX9_hasTable 100 = .ok (.iinc 5 1, 3) := by decide +kernel
theorem dX9_hasTable_103 : decode cX9_hasTable 103 = .ok (.goto (-97), 3) := by decide +kernel
theorem dX9_hasTable_106 : decode cX9_hasTable 106 = .ok (.iload 4, 2) := by decide +kernel
theorem dX9_hasTable_108 : decode cX9_hasTable 108 = .ok (.ireturn, 1) := by decide +kernel
theorem dX9_product_0 : decode cX9_product 0 = .ok (.lconst 1, 1) := by decide +kernel
theorem dX9_product_1 : decode cX9_product 1 = .ok (.lstore_n 3, 1) := by decide +kernel
theorem dX9_product_2 : decode cX9_product 2 = .ok (.iconst 0, 1) := by decide +kernel
theorem dX9_product_3 : decode cX9_product 3 = .ok (.istore 5, 2) := by decide +kernel
theorem dX9_product_5 : decode cX9_product 5 = .ok (.iload 5, 2) := by decide +kernel
theorem dX9_product_7 : decode cX9_product 7 = .ok (.aload_n 0, 1) := by decide +kernel
theorem dX9_product_8 : decode cX9_product 8 = .ok (.getfield 22, 3) := by decide +kernel
theorem dX9_product_11 : decode cX9_product 11 = .ok (.iload_n 1, 1) := by decide +kernel
theorem dX9_product_12 : decode cX9_product 12 = .ok (.iaload, 1) := by decide +kernel
theorem dX9_product_13 : decode cX9_product 13 = .ok (.if_icmp .ge 84, 3) := by decide +kernel
theorem dX9_product_16 : decode cX9_product 16 = .ok (.aload_n 0, 1) := by decide +kernel
theorem dX9_product_17 : decode cX9_product 17 = .ok (.getfield 25, 3) := by decide +kernel
theorem dX9_product_20 : decode cX9_product 20 = .ok (.iload_n 1, 1) := by decide +kernel
theorem dX9_product_21 : decode cX9_product 21 = .ok (.iaload, 1) := by decide +kernel
theorem dX9_product_22 : decode cX9_product 22 = .ok (.aload_n 0, 1) := by decide +kernel
theorem dX9_product_23 : decode cX9_product 23 = .ok (.getfield 22, 3) := by decide +kernel
theorem dX9_product_26 : decode cX9_product 26 = .ok (.iload_n 1, 1) := by decide +kernel
theorem dX9_product_27 : decode cX9_product 27 = .ok (.iaload, 1) := by decide +kernel
theorem dX9_product_28 : decode cX9_product 28 = .ok (.iload 5, 2) := by decide +kernel
theorem dX9_product_30 : decode cX9_product 30 = .ok (.invokestatic 51, 3) := by decide +kernel
theorem dX9_product_33 : decode cX9_product 33 = .ok (.istore 6, 2) := by decide +kernel
theorem dX9_product_35 : decode cX9_product 35 = .ok (.aload_n 0, 1) := by decide +kernel
theorem dX9_product_36 : decode cX9_product 36 = .ok (.getfield 25, 3) := by decide +kernel
theorem dX9_product_39 : decode cX9_product 39 = .ok (.iload_n 1, 1) := by decide +kernel
theorem dX9_product_40 : decode cX9_product 40 = .ok (.iaload, 1) := by decide +kernel
theorem dX9_product_41 : decode cX9_product 41 = .ok (.aload_n 0, 1) := by decide +kernel
theorem dX9_product_42 : decode cX9_product 42 = .ok (.getfield 22, 3) := by decide +kernel
theorem dX9_product_45 : decode cX9_product 45 = .ok (.iload_n 1, 1) := by decide +kernel
theorem dX9_product_46 : decode cX9_product 46 = .ok (.iaload, 1) := by decide +kernel
theorem dX9_product_47 : decode cX9_product 47 = .ok (.iload 5, 2) := by decide +kernel
theorem dX9_product_49 : decode cX9_product 49 = .ok (.iconst 1, 1) := by decide +kernel
theorem dX9_product_50 : decode cX9_product 50 = .ok (.iadd, 1) := by decide +kernel
theorem dX9_product_51 : decode cX9_product 51 = .ok (.aload_n 0, 1) := by decide +kernel
theorem dX9_product_52 : decode cX9_product 52 = .ok (.getfield 22, 3) := by decide +kernel
theorem dX9_product_55 : decode cX9_product 55 = .ok (.iload_n 1, 1) := by decide +kernel
theorem dX9_product_56 : decode cX9_product 56 = .ok (.iaload, 1) := by decide +kernel
theorem dX9_product_57 : decode cX9_product 57 = .ok (.irem, 1) := by decide +kernel
theorem dX9_product_58 : decode cX9_product 58 = .ok (.invokestatic 51, 3) := by decide +kernel
theorem dX9_product_61 : decode cX9_product 61 = .ok (.istore 7, 2) := by decide +kernel
theorem dX9_product_63 : decode cX9_product 63 = .ok (.lload_n 3, 1) := by decide +kernel
theorem dX9_product_64 : decode cX9_product 64 = .ok (.iload_n 2, 1) := by decide +kernel
theorem dX9_product_65 : decode cX9_product 65 = .ok (.ifCond .eq 15, 3) := by decide +kernel
theorem dX9_product_68 : decode cX9_product 68 = .ok (.aload_n 0, 1) := by decide +kernel
theorem dX9_product_69 : decode cX9_product 69 = .ok (.iload 6, 2) := by decide +kernel
theorem dX9_product_71 : decode cX9_product 71 = .ok (.iload 7, 2) := by decide +kernel
theorem dX9_product_73 : decode cX9_product 73 = .ok (.invokevirtual 69, 3) := by decide +kernel
theorem dX9_product_76 : decode cX9_product 76 = .ok (.i2l, 1) := by decide +kernel
theorem dX9_product_77 : decode cX9_product 77 = .ok (.goto 12, 3) := by decide +kernel
theorem dX9_product_80 : decode cX9_product 80 = .ok (.aload_n 0, 1) := by decide +kernel
theorem dX9_product_81 : decode cX9_product 81 = .ok (.iload 6, 2) := by decide +kernel
theorem dX9_product_83 : decode cX9_product 83 = .ok (.iload 7, 2) := by decide +kernel
theorem dX9_product_85 : decode cX9_product 85 = .ok (.invokevirtual 72, 3) := by decide +kernel
theorem dX9_product_88 : decode cX9_product 88 = .ok (.i2l, 1) := by decide +kernel
theorem dX9_product_89 : decode cX9_product 89 = .ok (.lmul, 1) := by decide +kernel
theorem dX9_product_90 : decode cX9_product 90 = .ok (.lstore_n 3, 1) := by decide +kernel
theorem dX9_product_91 : decode cX9_product 91 = .ok (.iinc 5 1, 3) := by decide +kernel
theorem dX9_product_94 : decode cX9_product 94 = .ok (.goto (-89), 3) := by decide +kernel
theorem dX9_product_97 : decode cX9_product 97 = .ok (.lload_n 3, 1) := by decide +kernel
theorem dX9_product_98 : decode cX9_product 98 = .ok (.lreturn, 1) := by decide +kernel
theorem dX9_floored_0 : decode cX9_floored 0 = .ok (.lload_n 0, 1) := by decide +kernel
theorem dX9_floored_1 : decode cX9_floored 1 = .ok (.lload_n 2, 1) := by decide +kernel
theorem dX9_floored_2 : decode cX9_floored 2 = .ok (.ldiv, 1) := by decide +kernel
theorem dX9_floored_3 : decode cX9_floored 3 = .ok (.lstore 4, 2) := by decide +kernel
theorem dX9_floored_5 : decode cX9_floored 5 = .ok (.lload_n 0, 1) := by decide +kernel
theorem dX9_floored_6 : decode cX9_floored 6 = .ok (.lload_n 2, 1) := by decide +kernel
theorem dX9_floored_7 : decode cX9_floored 7 = .ok (.lrem, 1) := by decide +kernel
theorem dX9_floored_8 : decode cX9_floored 8 = .ok (.lconst 0, 1) := by decide +kernel
theorem dX9_floored_9 : decode cX9_floored 9 = .ok (.lcmp, 1) := by decide +kernel
theorem dX9_floored_10 : decode cX9_floored 10 = .ok (.ifCond .ge 10, 3) := by decide +kernel
theorem dX9_floored_13 : decode cX9_floored 13 = .ok (.lload 4, 2) := by decide +kernel
theorem dX9_floored_15 : decode cX9_floored 15 = .ok (.lconst 1, 1) := by decide +kernel
theorem dX9_floored_16 : decode cX9_floored 16 = .ok (.lsub, 1) := by decide +kernel
theorem dX9_floored_17 : decode cX9_floored 17 = .ok (.goto 5, 3) := by decide +kernel
theorem dX9_floored_20 : decode cX9_floored 20 = .ok (.lload 4, 2) := by decide +kernel
theorem dX9_floored_22 : decode cX9_floored 22 = .ok (.lreturn, 1) := by decide +kernel
theorem dX9_gain_0 : decode cX9_gain 0 = .ok (.aload_n 0, 1) := by decide +kernel
theorem dX9_gain_1 : decode cX9_gain 1 = .ok (.iload_n 1, 1) := by decide +kernel
theorem dX9_gain_2 : decode cX9_gain 2 = .ok (.iconst 0, 1) := by decide +kernel
theorem dX9_gain_3 : decode cX9_gain 3 = .ok (.invokevirtual 75, 3) := by decide +kernel
theorem dX9_gain_6 : decode cX9_gain 6 = .ok (.lstore_n 2, 1) := by decide +kernel
theorem dX9_gain_7 : decode cX9_gain 7 = .ok (.aload_n 0, 1) := by decide +kernel
theorem dX9_gain_8 : decode cX9_gain 8 = .ok (.iload_n 1, 1) := by decide +kernel
theorem dX9_gain_9 : decode cX9_gain 9 = .ok (.iconst 1, 1) := by decide +kernel
theorem dX9_gain_10 : decode cX9_gain 10 = .ok (.invokevirtual 75, 3) := by decide +kernel
theorem dX9_gain_13 : decode cX9_gain 13 = .ok (.lload_n 2, 1) := by decide +kernel
theorem dX9_gain_14 : decode cX9_gain 14 = .ok (.lsub, 1) := by decide +kernel
theorem dX9_gain_15 : decode cX9_gain 15 = .ok (.ldc2_w 79, 3) := by decide +kernel
theorem dX9_gain_18 : decode cX9_gain 18 = .ok (.lmul, 1) := by decide +kernel
theorem dX9_gain_19 : decode cX9_gain 19 = .ok (.lload_n 2, 1) := by decide +kernel
theorem dX9_gain_20 : decode cX9_gain 20 = .ok (.invokestatic 81, 3) := by decide +kernel
theorem dX9_gain_23 : decode cX9_gain 23 = .ok (.lreturn, 1) := by decide +kernel
theorem dX9_isOff_0 : decode cX9_isOff 0 = .ok (.aload_n 0, 1) := by decide +kernel
theorem dX9_isOff_1 : decode cX9_isOff 1 = .ok (.iload_n 1, 1) := by decide +kernel
theorem dX9_isOff_2 : decode cX9_isOff 2 = .ok (.invokevirtual 85, 3) := by decide +kernel
theorem dX9_isOff_5 : decode cX9_isOff 5 = .ok (.lstore_n 2, 1) := by decide +kernel
theorem dX9_isOff_6 : decode cX9_isOff 6 = .ok (.lload_n 2, 1) := by decide +kernel
theorem dX9_isOff_7 : decode cX9_isOff 7 = .ok (.lconst 0, 1) := by decide +kernel
theorem dX9_isOff_8 : decode cX9_isOff 8 = .ok (.lcmp, 1) := by decide +kernel
theorem dX9_isOff_9 : decode cX9_isOff 9 = .ok (.ifCond .ge 8, 3) := by decide +kernel
theorem dX9_isOff_12 : decode cX9_isOff 12 = .ok (.lload_n 2, 1) := by decide +kernel
theorem dX9_isOff_13 : decode cX9_isOff 13 = .ok (.lneg, 1) := by decide +kernel
theorem dX9_isOff_14 : decode cX9_isOff 14 = .ok (.goto 4, 3) := by decide +kernel
theorem dX9_isOff_17 : decode cX9_isOff 17 = .ok (.lload_n 2, 1) := by decide +kernel
theorem dX9_isOff_18 : decode cX9_isOff 18 = .ok (.aload_n 0, 1) := by decide +kernel
theorem dX9_isOff_19 : decode cX9_isOff 19 = .ok (.getfield 7, 3) := by decide +kernel
theorem dX9_isOff_22 : decode cX9_isOff 22 = .ok (.bipush 25, 2) := by decide +kernel
theorem dX9_isOff_24 : decode cX9_isOff 24 = .ok (.iaload, 1) := by decide +kernel
theorem dX9_isOff_25 : decode cX9_isOff 25 = .ok (.i2l, 1) := by decide +kernel
theorem dX9_isOff_26 : decode cX9_isOff 26 = .ok (.lcmp, 1) := by decide +kernel
theorem dX9_isOff_27 : decode cX9_isOff 27 = .ok (.ifCond .le 7, 3) := by decide +kernel
theorem dX9_isOff_30 : decode cX9_isOff 30 = .ok (.iconst 1, 1) := by decide +kernel
theorem dX9_isOff_31 : decode cX9_isOff 31 = .ok (.goto 4, 3) := by decide +kernel
theorem dX9_isOff_34 : decode cX9_isOff 34 = .ok (.iconst 0, 1) := by decide +kernel
theorem dX9_isOff_35 : decode cX9_isOff 35 = .ok (.ireturn, 1) := by decide +kernel
theorem dX9_rings_0 : decode cX9_rings 0 = .ok (.iconst 0, 1) := by decide +kernel
theorem dX9_rings_1 : decode cX9_rings 1 = .ok (.istore_n 1, 1) := by decide +kernel
theorem dX9_rings_2 : decode cX9_rings 2 = .ok (.iconst 0, 1) := by decide +kernel
theorem dX9_rings_3 : decode cX9_rings 3 = .ok (.istore_n 2, 1) := by decide +kernel
theorem dX9_rings_4 : decode cX9_rings 4 = .ok (.iload_n 2, 1) := by decide +kernel
theorem dX9_rings_5 : decode cX9_rings 5 = .ok (.bipush 37, 2) := by decide +kernel
theorem dX9_rings_7 : decode cX9_rings 7 = .ok (.if_icmp .ge 25, 3) := by decide +kernel
theorem dX9_rings_10 : decode cX9_rings 10 = .ok (.iload_n 1, 1) := by decide +kernel
theorem dX9_rings_11 : decode cX9_rings 11 = .ok (.aload_n 0, 1) := by decide +kernel
theorem dX9_rings_12 : decode cX9_rings 12 = .ok (.iload_n 2, 1) := by decide +kernel
theorem dX9_rings_13 : decode cX9_rings 13 = .ok (.invokevirtual 89, 3) := by decide +kernel
theorem dX9_rings_16 : decode cX9_rings 16 = .ok (.ifCond .eq 7, 3) := by decide +kernel
theorem dX9_rings_19 : decode cX9_rings 19 = .ok (.iconst 1, 1) := by decide +kernel
theorem dX9_rings_20 : decode cX9_rings 20 = .ok (.goto 4, 3) := by decide +kernel
theorem dX9_rings_23 : decode cX9_rings 23 = .ok (.iconst 0, 1) := by decide +kernel
theorem dX9_rings_24 : decode cX9_rings 24 = .ok (.iadd, 1) := by decide +kernel
theorem dX9_rings_25 : decode cX9_rings 25 = .ok (.istore_n 1, 1) := by decide +kernel
theorem dX9_rings_26 : decode cX9_rings 26 = .ok (.iinc 2 1, 3) := by decide +kernel
theorem dX9_rings_29 : decode cX9_rings 29 = .ok (.goto (-25), 3) := by decide +kernel
theorem dX9_rings_32 : decode cX9_rings 32 = .ok (.iload_n 1, 1) := by decide +kernel
theorem dX9_rings_33 : decode cX9_rings 33 = .ok (.ireturn, 1) := by decide +kernel
theorem dX9_offRings_0 : decode cX9_offRings 0 = .ok (.iconst 0, 1) := by decide +kernel
theorem dX9_offRings_1 : decode cX9_offRings 1 = .ok (.istore_n 1, 1) := by decide +kernel
theorem dX9_offRings_2 : decode cX9_offRings 2 = .ok (.iconst 0, 1) := by decide +kernel
theorem dX9_offRings_3 : decode cX9_offRings 3 = .ok (.istore_n 2, 1) := by decide +kernel
theorem dX9_offRings_4 : decode cX9_offRings 4 = .ok (.iload_n 2, 1) := by decide +kernel
theorem dX9_offRings_5 : decode cX9_offRings 5 = .ok (.bipush 37, 2) := by decide +kernel
theorem dX9_offRings_7 : decode cX9_offRings 7 = .ok (.if_icmp .ge 33, 3) := by decide +kernel
theorem dX9_offRings_10 : decode cX9_offRings 10 = .ok (.iload_n 1, 1) := by decide +kernel
theorem dX9_offRings_11 : decode cX9_offRings 11 = .ok (.aload_n 0, 1) := by decide +kernel
theorem dX9_offRings_12 : decode cX9_offRings 12 = .ok (.iload_n 2, 1) := by decide +kernel
theorem dX9_offRings_13 : decode cX9_offRings 13 = .ok (.invokevirtual 89, 3) := by decide +kernel
theorem dX9_offRings_16 : decode cX9_offRings 16 = .ok (.ifCond .eq 15, 3) := by decide +kernel
theorem dX9_offRings_19 : decode cX9_offRings 19 = .ok (.aload_n 0, 1) := by decide +kernel
theorem dX9_offRings_20 : decode cX9_offRings 20 = .ok (.iload_n 2, 1) := by decide +kernel
theorem dX9_offRings_21 : decode cX9_offRings 21 = .ok (.invokevirtual 92, 3) := by decide +kernel
theorem dX9_offRings_24 : decode cX9_offRings 24 = .ok (.ifCond .eq 7, 3) := by decide +kernel
theorem dX9_offRings_27 : decode cX9_offRings 27 = .ok (.iconst 1, 1) := by decide +kernel
theorem dX9_offRings_28 : decode cX9_offRings 28 = .ok (.goto 4, 3) := by decide +kernel
theorem dX9_offRings_31 : decode cX9_offRings 31 = .ok (.iconst 0, 1) := by decide +kernel
theorem dX9_offRings_32 : decode cX9_offRings 32 = .ok (.iadd, 1) := by decide +kernel
theorem dX9_offRings_33 : decode cX9_offRings 33 = .ok (.istore_n 1, 1) := by decide +kernel
theorem dX9_offRings_34 : decode cX9_offRings 34 = .ok (.iinc 2 1, 3) := by decide +kernel
theorem dX9_offRings_37 : decode cX9_offRings 37 = .ok (.goto (-33), 3) := by decide +kernel
theorem dX9_offRings_40 : decode cX9_offRings 40 = .ok (.iload_n 1, 1) := by decide +kernel
theorem dX9_offRings_41 : decode cX9_offRings 41 = .ok (.ireturn, 1) := by decide +kernel
theorem dX9_withTable_0 : decode cX9_withTable 0 = .ok (.iconst 0, 1) := by decide +kernel
theorem dX9_withTable_1 : decode cX9_withTable 1 = .ok (.istore_n 3, 1) := by decide +kernel
theorem dX9_withTable_2 : decode cX9_withTable 2 = .ok (.iconst 0, 1) := by decide +kernel
theorem dX9_withTable_3 : decode cX9_withTable 3 = .ok (.istore 4, 2) := by decide +kernel
theorem dX9_withTable_5 : decode cX9_withTable 5 = .ok (.iload 4, 2) := by decide +kernel
theorem dX9_withTable_7 : decode cX9_withTable 7 = .ok (.bipush 37, 2) := by decide +kernel
theorem dX9_withTable_9 : decode cX9_withTable 9 = .ok (.if_icmp .ge 37, 3) := by decide +kernel
theorem dX9_withTable_12 : decode cX9_withTable 12 = .ok (.iload_n 3, 1) := by decide +kernel
theorem dX9_withTable_13 : decode cX9_withTable 13 = .ok (.aload_n 0, 1) := by decide +kernel
theorem dX9_withTable_14 : decode cX9_withTable 14 = .ok (.iload 4, 2) := by decide +kernel
theorem dX9_withTable_16 : decode cX9_withTable 16 = .ok (.invokevirtual 89, 3) := by decide +kernel
theorem dX9_withTable_19 : decode cX9_withTable 19 = .ok (.ifCond .eq 18, 3) := by decide +kernel
theorem dX9_withTable_22 : decode cX9_withTable 22 = .ok (.aload_n 0, 1) := by decide +kernel
theorem dX9_withTable_23 : decode cX9_withTable 23 = .ok (.iload 4, 2) := by decide +kernel
theorem dX9_withTable_25 : decode cX9_withTable 25 = .ok (.iload_n 1, 1) := by decide +kernel
theorem dX9_withTable_26 : decode cX9_withTable 26 = .ok (.iload_n 2, 1) := by decide +kernel
theorem dX9_withTable_27 : decode cX9_withTable 27 = .ok (.invokevirtual 95, 3) := by decide +kernel
theorem dX9_withTable_30 : decode cX9_withTable 30 = .ok (.ifCond .eq 7, 3) := by decide +kernel
theorem dX9_withTable_33 : decode cX9_withTable 33 = .ok (.iconst 1, 1) := by decide +kernel
theorem dX9_withTable_34 : decode cX9_withTable 34 = .ok (.goto 4, 3) := by decide +kernel
theorem dX9_withTable_37 : decode cX9_withTable 37 = .ok (.iconst 0, 1) := by decide +kernel
theorem dX9_withTable_38 : decode cX9_withTable 38 = .ok (.iadd, 1) := by decide +kernel
theorem dX9_withTable_39 : decode cX9_withTable 39 = .ok (.istore_n 3, 1) := by decide +kernel
theorem dX9_withTable_40 : decode cX9_withTable 40 = .ok (.iinc 4 1, 3) := by decide +kernel
theorem dX9_withTable_43 : decode cX9_withTable 43 = .ok (.goto (-38), 3) := by decide +kernel
theorem dX9_withTable_46 : decode cX9_withTable 46 = .ok (.iload_n 3, 1) := by decide +kernel
theorem dX9_withTable_47 : decode cX9_withTable 47 = .ok (.ireturn, 1) := by decide +kernel
theorem dX9_isSound_0 : decode cX9_isSound 0 = .ok (.iconst 1, 1) := by decide +kernel
theorem dX9_isSound_1 : decode cX9_isSound 1 = .ok (.istore_n 1, 1) := by decide +kernel
theorem dX9_isSound_2 : decode cX9_isSound 2 = .ok (.iconst 0, 1) := by decide +kernel
theorem dX9_isSound_3 : decode cX9_isSound 3 = .ok (.istore_n 2, 1) := by decide +kernel
theorem dX9_isSound_4 : decode cX9_isSound 4 = .ok (.iload_n 2, 1) := by decide +kernel
theorem dX9_isSound_5 : decode cX9_isSound 5 = .ok (.bipush 37, 2) := by decide +kernel
theorem dX9_isSound_7 : decode cX9_isSound 7 = .ok (.if_icmp .ge 43, 3) := by decide +kernel
theorem dX9_isSound_10 : decode cX9_isSound 10 = .ok (.iload_n 1, 1) := by decide +kernel
theorem dX9_isSound_11 : decode cX9_isSound 11 = .ok (.ifCond .eq 31, 3) := by decide +kernel
theorem dX9_isSound_14 : decode cX9_isSound 14 = .ok (.aload_n 0, 1) := by decide +kernel
theorem dX9_isSound_15 : decode cX9_isSound 15 = .ok (.iload_n 2, 1) := by decide +kernel
theorem dX9_isSound_16 : decode cX9_isSound 16 = .ok (.invokevirtual 89, 3) := by decide +kernel
theorem dX9_isSound_19 : decode cX9_isSound 19 = .ok (.ifCond .eq 19, 3) := by decide +kernel
theorem dX9_isSound_22 : decode cX9_isSound 22 = .ok (.aload_n 0, 1) := by decide +kernel
theorem dX9_isSound_23 : decode cX9_isSound 23 = .ok (.iload_n 2, 1) := by decide +kernel
theorem dX9_isSound_24 : decode cX9_isSound 24 = .ok (.iconst 1, 1) := by decide +kernel
theorem dX9_isSound_25 : decode cX9_isSound 25 = .ok (.invokevirtual 75, 3) := by decide +kernel
theorem dX9_isSound_28 : decode cX9_isSound 28 = .ok (.aload_n 0, 1) := by decide +kernel
theorem dX9_isSound_29 : decode cX9_isSound 29 = .ok (.iload_n 2, 1) := by decide +kernel
theorem dX9_isSound_30 : decode cX9_isSound 30 = .ok (.iconst 0, 1) := by decide +kernel
theorem dX9_isSound_31 : decode cX9_isSound 31 = .ok (.invokevirtual 75, 3) := by decide +kernel
theorem dX9_isSound_34 : decode cX9_isSound 34 = .ok (.lcmp, 1) := by decide +kernel
theorem dX9_isSound_35 : decode cX9_isSound 35 = .ok (.ifCond .ne 7, 3) := by decide +kernel
theorem dX9_isSound_38 : decode cX9_isSound 38 = .ok (.iconst 1, 1) := by decide +kernel
theorem dX9_isSound_39 : decode cX9_isSound 39 = .ok (.goto 4, 3) := by decide +kernel
theorem dX9_isSound_42 : decode cX9_isSound 42 = .ok (.iconst 0, 1) := by decide +kernel
theorem dX9_isSound_43 : decode cX9_isSound 43 = .ok (.istore_n 1, 1) := by decide +kernel
theorem dX9_isSound_44 : decode cX9_isSound 44 = .ok (.iinc 2 1, 3) := by decide +kernel
theorem dX9_isSound_47 : decode cX9_isSound 47 = .ok (.goto (-43), 3) := by decide +kernel
theorem dX9_isSound_50 : decode cX9_isSound 50 = .ok (.iload_n 1, 1) := by decide +kernel
theorem dX9_isSound_51 : decode cX9_isSound 51 = .ok (.ireturn, 1) := by decide +kernel
theorem dX9_isMeasured_0 : decode cX9_isMeasured 0 = .ok (.aload_n 0, 1) := by decide +kernel
theorem dX9_isMeasured_1 : decode cX9_isMeasured 1 = .ok (.invokevirtual 98, 3) := by decide +kernel
theorem dX9_isMeasured_4 : decode cX9_isMeasured 4 = .ok (.iconst 1, 1) := by decide +kernel
theorem dX9_isMeasured_5 : decode cX9_isMeasured 5 = .ok (.istore_n 1, 1) := by decide +kernel
theorem dX9_isMeasured_6 : decode cX9_isMeasured 6 = .ok (.iconst 0, 1) := by decide +kernel
theorem dX9_isMeasured_7 : decode cX9_isMeasured 7 = .ok (.istore_n 2, 1) := by decide +kernel
theorem dX9_isMeasured_8 : decode cX9_isMeasured 8 = .ok (.iload_n 2, 1) := by decide +kernel
theorem dX9_isMeasured_9 : decode cX9_isMeasured 9 = .ok (.iconst 5, 1) := by decide +kernel
theorem dX9_isMeasured_10 : decode cX9_isMeasured 10 = .ok (.if_icmp .ge 89, 3) := by decide +kernel
theorem dX9_isMeasured_13 : decode cX9_isMeasured 13 = .ok (.iload_n 2, 1) := by decide +kernel
theorem dX9_isMeasured_14 : decode cX9_isMeasured 14 = .ok (.iconst 1, 1) := by decide +kernel
theorem dX9_isMeasured_15 : decode cX9_isMeasured 15 = .ok (.iadd, 1) := by decide +kernel
theorem dX9_isMeasured_16 : decode cX9_isMeasured 16 = .ok (.istore_n 3, 1) := by decide +kernel
theorem dX9_isMeasured_17 : decode cX9_isMeasured 17 = .ok (.iload_n 3, 1) := by decide +kernel
theorem dX9_isMeasured_18 : decode cX9_isMeasured 18 = .ok (.iconst 5, 1) := by decide +kernel
theorem dX9_isMeasured_19 : decode cX9_isMeasured 19 = .ok (.if_icmp .ge 74, 3) := by decide +kernel
theorem dX9_isMeasured_22 : decode cX9_isMeasured 22 = .ok (.iload_n 1, 1) := by decide +kernel
theorem dX9_isMeasured_23 : decode cX9_isMeasured 23 = .ok (.ifCond .eq 62, 3) := by decide +kernel
theorem dX9_isMeasured_26 : decode cX9_isMeasured 26 = .ok (.aload_n 0, 1) := by decide +kernel
theorem dX9_isMeasured_27 : decode cX9_isMeasured 27 = .ok (.iload_n 2, 1) := by decide +kernel
theorem dX9_isMeasured_28 : decode cX9_isMeasured 28 = .ok (.iload_n 3, 1) := by decide +kernel
theorem dX9_isMeasured_29 : decode cX9_isMeasured 29 = .ok (.invokevirtual 66, 3) := by decide +kernel
theorem dX9_isMeasured_32 : decode cX9_isMeasured 32 = .ok (.ifCond .eq 49, 3) := by decide +kernel
theorem dX9_isMeasured_35 : decode cX9_isMeasured 35 = .ok (.aload_n 0, 1) := by decide +kernel
theorem dX9_isMeasured_36 : decode cX9_isMeasured 36 = .ok (.getfield 28, 3) := by decide +kernel
theorem dX9_isMeasured_39 : decode cX9_isMeasured 39 = .ok (.iload_n 3, 1) := by decide +kernel
theorem dX9_isMeasured_40 : decode cX9_isMeasured 40 = .ok (.laload, 1) := by decide +kernel
theorem dX9_isMeasured_41 : decode cX9_isMeasured 41 = .ok (.aload_n 0, 1) := by decide +kernel
theorem dX9_isMeasured_42 : decode cX9_isMeasured 42 = .ok (.getfield 32, 3) := by decide +kernel
theorem dX9_isMeasured_45 : decode cX9_isMeasured 45 = .ok (.iload_n 2, 1) := by decide +kernel
theorem dX9_isMeasured_46 : decode cX9_isMeasured 46 = .ok (.laload, 1) := by decide +kernel
theorem dX9_isMeasured_47 : decode cX9_isMeasured 47 = .ok (.lmul, 1) := by decide +kernel
theorem dX9_isMeasured_48 : decode cX9_isMeasured 48 = .ok (.aload_n 0, 1) := by decide +kernel
theorem dX9_isMeasured_49 : decode cX9_isMeasured 49 = .ok (.iload_n 2, 1) := by decide +kernel
theorem dX9_isMeasured_50 : decode cX9_isMeasured 50 = .ok (.iload_n 3, 1) := by decide +kernel
theorem dX9_isMeasured_51 : decode cX9_isMeasured 51 = .ok (.invokevirtual 72, 3) := by decide +kernel
theorem dX9_isMeasured_54 : decode cX9_isMeasured 54 = .ok (.i2l, 1) := by decide +kernel
theorem dX9_isMeasured_55 : decode cX9_isMeasured 55 = .ok (.lmul, 1) := by decide +kernel
theorem dX9_isMeasured_56 : decode cX9_isMeasured 56 = .ok (.aload_n 0, 1) := by decide +kernel
theorem dX9_isMeasured_57 : decode cX9_isMeasured 57 = .ok (.getfield 28, 3) := by decide +kernel
theorem dX9_isMeasured_60 : decode cX9_isMeasured 60 = .ok (.iload_n 2, 1) := by decide +kernel
theorem dX9_isMeasured_61 : decode cX9_isMeasured 61 = .ok (.laload, 1) := by decide +kernel
theorem dX9_isMeasured_62 : decode cX9_isMeasured 62 = .ok (.aload_n 0, 1) := by decide +kernel
theorem dX9_isMeasured_63 : decode cX9_isMeasured 63 = .ok (.iload_n 2, 1) := by decide +kernel
theorem dX9_isMeasured_64 : decode cX9_isMeasured 64 = .ok (.iload_n 3, 1) := by decide +kernel
theorem dX9_isMeasured_65 : decode cX9_isMeasured 65 = .ok (.invokevirtual 69, 3) := by decide +kernel
theorem dX9_isMeasured_68 : decode cX9_isMeasured 68 = .ok (.i2l, 1) := by decide +kernel
theorem dX9_isMeasured_69 : decode cX9_isMeasured 69 = .ok (.lmul, 1) := by decide +kernel
theorem dX9_isMeasured_70 : decode cX9_isMeasured 70 = .ok (.aload_n 0, 1) := by decide +kernel
theorem dX9_isMeasured_71 : decode cX9_isMeasured 71 = .ok (.getfield 32, 3) := by decide +kernel
theorem dX9_isMeasured_74 : decode cX9_isMeasured 74 = .ok (.iload_n 3, 1) := by decide +kernel
theorem dX9_isMeasured_75 : decode cX9_isMeasured 75 = .ok (.laload, 1) := by decide +kernel
theorem dX9_isMeasured_76 : decode cX9_isMeasured 76 = .ok (.lmul, 1) := by decide +kernel
theorem dX9_isMeasured_77 : decode cX9_isMeasured 77 = .ok (.lcmp, 1) := by decide +kernel
theorem dX9_isMeasured_78 : decode cX9_isMeasured 78 = .ok (.ifCond .ne 7, 3) := by decide +kernel
theorem dX9_isMeasured_81 : decode cX9_isMeasured 81 = .ok (.iconst 1, 1) := by decide +kernel
theorem dX9_isMeasured_82 : decode cX9_isMeasured 82 = .ok (.goto 4, 3) := by decide +kernel
theorem dX9_isMeasured_85 : decode cX9_isMeasured 85 = .ok (.iconst 0, 1) := by decide +kernel
theorem dX9_isMeasured_86 : decode cX9_isMeasured 86 = .ok (.istore_n 1, 1) := by decide +kernel
theorem dX9_isMeasured_87 : decode cX9_isMeasured 87 = .ok (.iinc 3 1, 3) := by decide +kernel
theorem dX9_isMeasured_90 : decode cX9_isMeasured 90 = .ok (.goto (-73), 3) := by decide +kernel
theorem dX9_isMeasured_93 : decode cX9_isMeasured 93 = .ok (.iinc 2 1, 3) := by decide +kernel
theorem dX9_isMeasured_96 : decode cX9_isMeasured 96 = .ok (.goto (-88), 3) := by decide +kernel
theorem dX9_isMeasured_99 : decode cX9_isMeasured 99 = .ok (.iload_n 1, 1) := by decide +kernel
theorem dX9_isMeasured_100 : decode cX9_isMeasured 100 = .ok (.ireturn, 1) := by decide +kernel
theorem dX9_measures_0 : decode cX9_measures 0 = .ok (.iconst 0, 1) := by decide +kernel
theorem dX9_measures_1 : decode cX9_measures 1 = .ok (.istore_n 1, 1) := by decide +kernel
theorem dX9_measures_2 : decode cX9_measures 2 = .ok (.iload_n 1, 1) := by decide +kernel
theorem dX9_measures_3 : decode cX9_measures 3 = .ok (.iconst 5, 1) := by decide +kernel
theorem dX9_measures_4 : decode cX9_measures 4 = .ok (.if_icmp .ge 23, 3) := by decide +kernel
theorem dX9_measures_7 : decode cX9_measures 7 = .ok (.aload_n 0, 1) := by decide +kernel
theorem dX9_measures_8 : decode cX9_measures 8 = .ok (.getfield 28, 3) := by decide +kernel
theorem dX9_measures_11 : decode cX9_measures 11 = .ok (.iload_n 1, 1) := by decide +kernel
theorem dX9_measures_12 : decode cX9_measures 12 = .ok (.lconst 0, 1) := by decide +kernel
theorem dX9_measures_13 : decode cX9_measures 13 = .ok (.lastore, 1) := by decide +kernel
theorem dX9_measures_14 : decode cX9_measures 14 = .ok (.aload_n 0, 1) := by decide +kernel
theorem dX9_measures_15 : decode cX9_measures 15 = .ok (.getfield 32, 3) := by decide +kernel
theorem dX9_measures_18 : decode cX9_measures 18 = .ok (.iload_n 1, 1) := by decide +kernel
theorem dX9_measures_19 : decode cX9_measures 19 = .ok (.lconst 0, 1) := by decide +kernel
theorem dX9_measures_20 : decode cX9_measures 20 = .ok (.lastore, 1) := by decide +kernel
theorem dX9_measures_21 : decode cX9_measures 21 = .ok (.iinc 1 1, 3) := by decide +kernel
theorem dX9_measures_24 : decode cX9_measures 24 = .ok (.goto (-22), 3) := by decide +kernel
theorem dX9_measures_27 : decode cX9_measures 27 = .ok (.iconst 0, 1) := by decide +kernel
theorem dX9_measures_28 : decode cX9_measures 28 = .ok (.istore_n 1, 1) := by decide +kernel
theorem dX9_measures_29 : decode cX9_measures 29 = .ok (.iload_n 1, 1) := by decide +kernel
theorem dX9_measures_30 : decode cX9_measures 30 = .ok (.iconst 5, 1) := by decide +kernel
theorem dX9_measures_31 : decode cX9_measures 31 = .ok (.if_icmp .ge 38, 3) := by decide +kernel
theorem dX9_measures_34 : decode cX9_measures 34 = .ok (.aload_n 0, 1) := by decide +kernel
theorem dX9_measures_35 : decode cX9_measures 35 = .ok (.getfield 28, 3) := by decide +kernel
theorem dX9_measures_38 : decode cX9_measures 38 = .ok (.iload_n 1, 1) := by decide +kernel
theorem dX9_measures_39 : decode cX9_measures 39 = .ok (.laload, 1) := by decide +kernel
theorem dX9_measures_40 : decode cX9_measures 40 = .ok (.lconst 0, 1) := by decide +kernel
theorem dX9_measures_41 : decode cX9_measures 41 = .ok (.lcmp, 1) := by decide +kernel
theorem dX9_measures_42 : decode cX9_measures 42 = .ok (.ifCond .ne 21, 3) := by decide +kernel
theorem dX9_measures_45 : decode cX9_measures 45 = .ok (.aload_n 0, 1) := by decide +kernel
theorem dX9_measures_46 : decode cX9_measures 46 = .ok (.getfield 28, 3) := by decide +kernel
theorem dX9_measures_49 : decode cX9_measures 49 = .ok (.iload_n 1, 1) := by decide +kernel
theorem dX9_measures_50 : decode cX9_measures 50 = .ok (.lconst 1, 1) := by decide +kernel
theorem dX9_measures_51 : decode cX9_measures 51 = .ok (.lastore, 1) := by decide +kernel
theorem dX9_measures_52 : decode cX9_measures 52 = .ok (.aload_n 0, 1) := by decide +kernel
theorem dX9_measures_53 : decode cX9_measures 53 = .ok (.getfield 32, 3) := by decide +kernel
theorem dX9_measures_56 : decode cX9_measures 56 = .ok (.iload_n 1, 1) := by decide +kernel
theorem dX9_measures_57 : decode cX9_measures 57 = .ok (.lconst 1, 1) := by decide +kernel
theorem dX9_measures_58 : decode cX9_measures 58 = .ok (.lastore, 1) := by decide +kernel
theorem dX9_measures_59 : decode cX9_measures 59 = .ok (.aload_n 0, 1) := by decide +kernel
theorem dX9_measures_60 : decode cX9_measures 60 = .ok (.invokevirtual 101, 3) := by decide +kernel
theorem dX9_measures_63 : decode cX9_measures 63 = .ok (.iinc 1 1, 3) := by decide +kernel
theorem dX9_measures_66 : decode cX9_measures 66 = .ok (.goto (-37), 3) := by decide +kernel
theorem dX9_measures_69 : decode cX9_measures 69 = .ok (.return_, 1) := by decide +kernel
theorem dX9_spreads_0 : decode cX9_spreads 0 = .ok (.iconst 1, 1) := by decide +kernel
theorem dX9_spreads_1 : decode cX9_spreads 1 = .ok (.istore_n 1, 1) := by decide +kernel
theorem dX9_spreads_2 : decode cX9_spreads 2 = .ok (.iload_n 1, 1) := by decide +kernel
theorem dX9_spreads_3 : decode cX9_spreads 3 = .ok (.ifCond .eq 110, 3) := by decide +kernel
theorem dX9_spreads_6 : decode cX9_spreads 6 = .ok (.iconst 0, 1) := by decide +kernel
theorem dX9_spreads_7 : decode cX9_spreads 7 = .ok (.istore_n 1, 1) := by decide +kernel
theorem dX9_spreads_8 : decode cX9_spreads 8 = .ok (.iconst 0, 1) := by decide +kernel
theorem dX9_spreads_9 : decode cX9_spreads 9 = .ok (.istore_n 2, 1) := by decide +kernel
theorem dX9_spreads_10 : decode cX9_spreads 10 = .ok (.iload_n 2, 1) := by decide +kernel
theorem dX9_spreads_11 : decode cX9_spreads 11 = .ok (.bipush 25, 2) := by decide +kernel
theorem dX9_spreads_13 : decode cX9_spreads 13 = .ok (.if_icmp .ge 97, 3) := by decide +kernel
theorem dX9_spreads_16 : decode cX9_spreads 16 = .ok (.iload_n 2, 1) := by decide +kernel
theorem dX9_spreads_17 : decode cX9_spreads 17 = .ok (.iconst 5, 1) := by decide +kernel
theorem dX9_spreads_18 : decode cX9_spreads 18 = .ok (.idiv, 1) := by decide +kernel
theorem dX9_spreads_19 : decode cX9_spreads 19 = .ok (.istore_n 3, 1) := by decide +kernel
theorem dX9_spreads_20 : decode cX9_spreads 20 = .ok (.iload_n 2, 1) := by decide +kernel
theorem dX9_spreads_21 : decode cX9_spreads 21 = .ok (.iconst 5, 1) := by decide +kernel
theorem dX9_spreads_22 : decode cX9_spreads 22 = .ok (.irem, 1) := by decide +kernel
theorem dX9_spreads_23 : decode cX9_spreads 23 = .ok (.istore 4, 2) := by decide +kernel
theorem dX9_spreads_25 : decode cX9_spreads 25 = .ok (.aload_n 0, 1) := by decide +kernel
theorem dX9_spreads_26 : decode cX9_spreads 26 = .ok (.getfield 28, 3) := by decide +kernel
theorem dX9_spreads_29 : decode cX9_spreads 29 = .ok (.iload_n 3, 1) := by decide +kernel
theorem dX9_spreads_30 : decode cX9_spreads 30 = .ok (.laload, 1) := by decide +kernel
theorem dX9_spreads_31 : decode cX9_spreads 31 = .ok (.lconst 0, 1) := by decide +kernel
theorem dX9_spreads_32 : decode cX9_spreads 32 = .ok (.lcmp, 1) := by decide +kernel
theorem dX9_spreads_33 : decode cX9_spreads 33 = .ok (.ifCond .le 71, 3) := by decide +kernel
theorem dX9_spreads_36 : decode cX9_spreads 36 = .ok (.aload_n 0, 1) := by decide +kernel
theorem dX9_spreads_37 : decode cX9_spreads 37 = .ok (.getfield 28, 3) := by decide +kernel
theorem dX9_spreads_40 : decode cX9_spreads 40 = .ok (.iload 4, 2) := by decide +kernel
theorem dX9_spreads_42 : decode cX9_spreads 42 = .ok (.laload, 1) := by decide +kernel
theorem dX9_spreads_43 : decode cX9_spreads 43 = .ok (.lconst 0, 1) := by decide +kernel
theorem dX9_spreads_44 : decode cX9_spreads 44 = .ok (.lcmp, 1) := by decide +kernel
theorem dX9_spreads_45 : decode cX9_spreads 45 = .ok (.ifCond .ne 59, 3) := by decide +kernel
theorem dX9_spreads_48 : decode cX9_spreads 48 = .ok (.aload_n 0, 1) := by decide +kernel
theorem dX9_spreads_49 : decode cX9_spreads 49 = .ok (.iload_n 3, 1) := by decide +kernel
theorem dX9_spreads_50 : decode cX9_spreads 50 = .ok (.iload 4, 2) := by decide +kernel
theorem dX9_spreads_52 : decode cX9_spreads 52 = .ok (.invokevirtual 66, 3) := by decide +kernel
theorem dX9_spreads_55 : decode cX9_spreads 55 = .ok (.ifCond .eq 49, 3) := by decide +kernel
theorem dX9_spreads_58 : decode cX9_spreads 58 = .ok (.aload_n 0, 1) := by decide +kernel
theorem dX9_spreads_59 : decode cX9_spreads 59 = .ok (.getfield 28, 3) := by decide +kernel
theorem dX9_spreads_62 : decode cX9_spreads 62 = .ok (.iload 4, 2) := by decide +kernel
theorem dX9_spreads_64 : decode cX9_spreads 64 = .ok (.aload_n 0, 1) := by decide +kernel
theorem dX9_spreads_65 : decode cX9_spreads 65 = .ok (.getfield 28, 3) := by decide +kernel
theorem dX9_spreads_68 : decode cX9_spreads 68 = .ok (.iload_n 3, 1) := by decide +kernel
theorem dX9_spreads_69 : decode cX9_spreads 69 = .ok (.laload, 1) := by decide +kernel
theorem dX9_spreads_70 : decode cX9_spreads 70 = .ok (.aload_n 0, 1) := by decide +kernel
theorem dX9_spreads_71 : decode cX9_spreads 71 = .ok (.iload_n 3, 1) := by decide +kernel
theorem dX9_spreads_72 : decode cX9_spreads 72 = .ok (.iload 4, 2) := by decide +kernel
theorem dX9_spreads_74 : decode cX9_spreads 74 = .ok (.invokevirtual 69, 3) := by decide +kernel
theorem dX9_spreads_77 : decode cX9_spreads 77 = .ok (.i2l, 1) := by decide +kernel
theorem dX9_spreads_78 : decode cX9_spreads 78 = .ok (.lmul, 1) := by decide +kernel
theorem dX9_spreads_79 : decode cX9_spreads 79 = .ok (.lastore, 1) := by decide +kernel
theorem dX9_spreads_80 : decode cX9_spreads 80 = .ok (.aload_n 0, 1) := by decide +kernel
theorem dX9_spreads_81 : decode cX9_spreads 81 = .ok (.getfield 32, 3) := by decide +kernel
theorem dX9_spreads_84 : decode cX9_spreads 84 = .ok (.iload 4, 2) := by decide +kernel
theorem dX9_spreads_86 : decode cX9_spreads 86 = .ok (.aload_n 0, 1) := by decide +kernel
theorem dX9_spreads_87 : decode cX9_spreads 87 = .ok (.getfield 32, 3) := by decide +kernel
theorem dX9_spreads_90 : decode cX9_spreads 90 = .ok (.iload_n 3, 1) := by decide +kernel
theorem dX9_spreads_91 : decode cX9_spreads 91 = .ok (.laload, 1) := by decide +kernel
theorem dX9_spreads_92 : decode cX9_spreads 92 = .ok (.aload_n 0, 1) := by decide +kernel
theorem dX9_spreads_93 : decode cX9_spreads 93 = .ok (.iload_n 3, 1) := by decide +kernel
theorem dX9_spreads_94 : decode cX9_spreads 94 = .ok (.iload 4, 2) := by decide +kernel
theorem dX9_spreads_96 : decode cX9_spreads 96 = .ok (.invokevirtual 72, 3) := by decide +kernel
theorem dX9_spreads_99 : decode cX9_spreads 99 = .ok (.i2l, 1) := by decide +kernel
theorem dX9_spreads_100 : decode cX9_spreads 100 = .ok (.lmul, 1) := by decide +kernel
theorem dX9_spreads_101 : decode cX9_spreads 101 = .ok (.lastore, 1) := by decide +kernel
theorem dX9_spreads_102 : decode cX9_spreads 102 = .ok (.iconst 1, 1) := by decide +kernel
theorem dX9_spreads_103 : decode cX9_spreads 103 = .ok (.istore_n 1, 1) := by decide +kernel
theorem dX9_spreads_104 : decode cX9_spreads 104 = .ok (.iinc 2 1, 3) := by decide +kernel
theorem dX9_spreads_107 : decode cX9_spreads 107 = .ok (.goto (-97), 3) := by decide +kernel
theorem dX9_spreads_110 : decode cX9_spreads 110 = .ok (.goto (-108), 3) := by decide +kernel
theorem dX9_spreads_113 : decode cX9_spreads 113 = .ok (.return_, 1) := by decide +kernel
theorem dX9_offWith_0 : decode cX9_offWith 0 = .ok (.iconst 0, 1) := by decide +kernel
theorem dX9_offWith_1 : decode cX9_offWith 1 = .ok (.istore_n 3, 1) := by decide +kernel
theorem dX9_offWith_2 : decode cX9_offWith 2 = .ok (.iload_n 3, 1) := by decide +kernel
theorem dX9_offWith_3 : decode cX9_offWith 3 = .ok (.bipush 37, 2) := by decide +kernel
theorem dX9_offWith_5 : decode cX9_offWith 5 = .ok (.if_icmp .ge 42, 3) := by decide +kernel
theorem dX9_offWith_8 : decode cX9_offWith 8 = .ok (.aload_n 0, 1) := by decide +kernel
theorem dX9_offWith_9 : decode cX9_offWith 9 = .ok (.iload_n 3, 1) := by decide +kernel
theorem dX9_offWith_10 : decode cX9_offWith 10 = .ok (.iload_n 1, 1) := by decide +kernel
theorem dX9_offWith_11 : decode cX9_offWith 11 = .ok (.iload_n 2, 1) := by decide +kernel
theorem dX9_offWith_12 : decode cX9_offWith 12 = .ok (.invokevirtual 95, 3) := by decide +kernel
theorem dX9_offWith_15 : decode cX9_offWith 15 = .ok (.ifCond .eq 26, 3) := by decide +kernel
theorem dX9_offWith_18 : decode cX9_offWith 18 = .ok (.aload_n 0, 1) := by decide +kernel
theorem dX9_offWith_19 : decode cX9_offWith 19 = .ok (.iload_n 3, 1) := by decide +kernel
theorem dX9_offWith_20 : decode cX9_offWith 20 = .ok (.invokevirtual 89, 3) := by decide +kernel
theorem dX9_offWith_23 : decode cX9_offWith 23 = .ok (.ifCond .eq 18, 3) := by decide +kernel
theorem dX9_offWith_26 : decode cX9_offWith 26 = .ok (.aload_n 0, 1) := by decide +kernel
theorem dX9_offWith_27 : decode cX9_offWith 27 = .ok (.iload_n 3, 1) := by decide +kernel
theorem dX9_offWith_28 : decode cX9_offWith 28 = .ok (.invokevirtual 92, 3) := by decide +kernel
theorem dX9_offWith_31 : decode cX9_offWith 31 = .ok (.ifCond .eq 10, 3) := by decide +kernel
theorem dX9_offWith_34 : decode cX9_offWith 34 = .ok (.aload_n 0, 1) := by decide +kernel
theorem dX9_offWith_35 : decode cX9_offWith 35 = .ok (.getfield 25, 3) := by decide +kernel
theorem dX9_offWith_38 : decode cX9_offWith 38 = .ok (.iload_n 3, 1) := by decide +kernel
theorem dX9_offWith_39 : decode cX9_offWith 39 = .ok (.iaload, 1) := by decide +kernel
theorem dX9_offWith_40 : decode cX9_offWith 40 = .ok (.ireturn, 1) := by decide +kernel
theorem dX9_offWith_41 : decode cX9_offWith 41 = .ok (.iinc 3 1, 3) := by decide +kernel
theorem dX9_offWith_44 : decode cX9_offWith 44 = .ok (.goto (-42), 3) := by decide +kernel
theorem dX9_offWith_47 : decode cX9_offWith 47 = .ok (.iconst 0, 1) := by decide +kernel
theorem dX9_offWith_48 : decode cX9_offWith 48 = .ok (.ireturn, 1) := by decide +kernel
theorem dX9_offTried_0 : decode cX9_offTried 0 = .ok (.aload_n 0, 1) := by decide +kernel
theorem dX9_offTried_1 : decode cX9_offTried 1 = .ok (.iload_n 1, 1) := by decide +kernel
theorem dX9_offTried_2 : decode cX9_offTried 2 = .ok (.iload_n 2, 1) := by decide +kernel
theorem dX9_offTried_3 : decode cX9_offTried 3 = .ok (.invokevirtual 69, 3) := by decide +kernel
theorem dX9_offTried_6 : decode cX9_offTried 6 = .ok (.istore 5, 2) := by decide +kernel
theorem dX9_offTried_8 : decode cX9_offTried 8 = .ok (.aload_n 0, 1) := by decide +kernel
theorem dX9_offTried_9 : decode cX9_offTried 9 = .ok (.iload_n 1, 1) := by decide +kernel
theorem dX9_offTried_10 : decode cX9_offTried 10 = .ok (.iload_n 2, 1) := by decide +kernel
theorem dX9_offTried_11 : decode cX9_offTried 11 = .ok (.invokevirtual 72, 3) := by decide +kernel
theorem dX9_offTried_14 : decode cX9_offTried 14 = .ok (.istore 6, 2) := by decide +kernel
theorem dX9_offTried_16 : decode cX9_offTried 16 = .ok (.aload_n 0, 1) := by decide +kernel
theorem dX9_offTried_17 : decode cX9_offTried 17 = .ok (.iload_n 1, 1) := by decide +kernel
theorem dX9_offTried_18 : decode cX9_offTried 18 = .ok (.iload_n 2, 1) := by decide +kernel
theorem dX9_offTried_19 : decode cX9_offTried 19 = .ok (.iload_n 3, 1) := by decide +kernel
theorem dX9_offTried_20 : decode cX9_offTried 20 = .ok (.iload 4, 2) := by decide +kernel
theorem dX9_offTried_22 : decode cX9_offTried 22 = .ok (.invokevirtual 104, 3) := by decide +kernel
theorem dX9_offTried_25 : decode cX9_offTried 25 = .ok (.aload_n 0, 1) := by decide +kernel
theorem dX9_offTried_26 : decode cX9_offTried 26 = .ok (.iload_n 1, 1) := by decide +kernel
theorem dX9_offTried_27 : decode cX9_offTried 27 = .ok (.iload_n 2, 1) := by decide +kernel
theorem dX9_offTried_28 : decode cX9_offTried 28 = .ok (.invokevirtual 108, 3) := by decide +kernel
theorem dX9_offTried_31 : decode cX9_offTried 31 = .ok (.istore 7, 2) := by decide +kernel
theorem dX9_offTried_33 : decode cX9_offTried 33 = .ok (.aload_n 0, 1) := by decide +kernel
theorem dX9_offTried_34 : decode cX9_offTried 34 = .ok (.iload_n 1, 1) := by decide +kernel
theorem dX9_offTried_35 : decode cX9_offTried 35 = .ok (.iload_n 2, 1) := by decide +kernel
theorem dX9_offTried_36 : decode cX9_offTried 36 = .ok (.iload 5, 2) := by decide +kernel
theorem dX9_offTried_38 : decode cX9_offTried 38 = .ok (.iload 6, 2) := by decide +kernel
theorem dX9_offTried_40 : decode cX9_offTried 40 = .ok (.invokevirtual 104, 3) := by decide +kernel
theorem dX9_offTried_43 : decode cX9_offTried 43 = .ok (.iload 7, 2) := by decide +kernel
theorem dX9_offTried_45 : decode cX9_offTried 45 = .ok (.ireturn, 1) := by decide +kernel
theorem dX9_tables_0 : decode cX9_tables 0 = .ok (.iconst 0, 1) := by decide +kernel
theorem dX9_tables_1 : decode cX9_tables 1 = .ok (.istore_n 1, 1) := by decide +kernel
theorem dX9_tables_2 : decode cX9_tables 2 = .ok (.iconst 0, 1) := by decide +kernel
theorem dX9_tables_3 : decode cX9_tables 3 = .ok (.istore_n 2, 1) := by decide +kernel
theorem dX9_tables_4 : decode cX9_tables 4 = .ok (.iload_n 2, 1) := by decide +kernel
theorem dX9_tables_5 : decode cX9_tables 5 = .ok (.bipush 10, 2) := by decide +kernel
theorem dX9_tables_7 : decode cX9_tables 7 = .ok (.if_icmp .ge 28, 3) := by decide +kernel
theorem dX9_tables_10 : decode cX9_tables 10 = .ok (.iload_n 1, 1) := by decide +kernel
theorem dX9_tables_11 : decode cX9_tables 11 = .ok (.aload_n 0, 1) := by decide +kernel
theorem dX9_tables_12 : decode cX9_tables 12 = .ok (.getfield 7, 3) := by decide +kernel
theorem dX9_tables_15 : decode cX9_tables 15 = .ok (.iconst 0, 1) := by decide +kernel
theorem dX9_tables_16 : decode cX9_tables 16 = .ok (.iload_n 2, 1) := by decide +kernel
theorem dX9_tables_17 : decode cX9_tables 17 = .ok (.iadd, 1) := by decide +kernel
theorem dX9_tables_18 : decode cX9_tables 18 = .ok (.iaload, 1) := by decide +kernel
theorem dX9_tables_19 : decode cX9_tables 19 = .ok (.ifCond .le 7, 3) := by decide +kernel
theorem dX9_tables_22 : decode cX9_tables 22 = .ok (.iconst 1, 1) := by decide +kernel
theorem dX9_tables_23 : decode cX9_tables 23 = .ok (.goto 4, 3) := by decide +kernel
theorem dX9_tables_26 : decode cX9_tables 26 = .ok (.iconst 0, 1) := by decide +kernel
theorem dX9_tables_27 : decode cX9_tables 27 = .ok (.iadd, 1) := by decide +kernel
theorem dX9_tables_28 : decode cX9_tables 28 = .ok (.istore_n 1, 1) := by decide +kernel
theorem dX9_tables_29 : decode cX9_tables 29 = .ok (.iinc 2 1, 3) := by decide +kernel
theorem dX9_tables_32 : decode cX9_tables 32 = .ok (.goto (-28), 3) := by decide +kernel
theorem dX9_tables_35 : decode cX9_tables 35 = .ok (.iload_n 1, 1) := by decide +kernel
theorem dX9_tables_36 : decode cX9_tables 36 = .ok (.ireturn, 1) := by decide +kernel
theorem dX9_stick_0 : decode cX9_stick 0 = .ok (.aload_n 0, 1) := by decide +kernel
theorem dX9_stick_1 : decode cX9_stick 1 = .ok (.iload_n 1, 1) := by decide +kernel
theorem dX9_stick_2 : decode cX9_stick 2 = .ok (.invokestatic 55, 3) := by decide +kernel
theorem dX9_stick_5 : decode cX9_stick 5 = .ok (.ifCond .ne 7, 3) := by decide +kernel
theorem dX9_stick_8 : decode cX9_stick 8 = .ok (.iconst 1, 1) := by decide +kernel
theorem dX9_stick_9 : decode cX9_stick 9 = .ok (.goto 19, 3) := by decide +kernel
theorem dX9_stick_12 : decode cX9_stick 12 = .ok (.iload_n 2, 1) := by decide +kernel
theorem dX9_stick_13 : decode cX9_stick 13 = .ok (.bipush 20, 2) := by decide +kernel
theorem dX9_stick_15 : decode cX9_stick 15 = .ok (.bipush 60, 2) := by decide +kernel
theorem dX9_stick_17 : decode cX9_stick 17 = .ok (.invokestatic 44, 3) := by decide +kernel
theorem dX9_stick_20 : decode cX9_stick 20 = .ok (.ifCond .eq 7, 3) := by decide +kernel
theorem dX9_stick_23 : decode cX9_stick 23 = .ok (.iconst 0, 1) := by decide +kernel
theorem dX9_stick_24 : decode cX9_stick 24 = .ok (.goto 4, 3) := by decide +kernel
theorem dX9_stick_27 : decode cX9_stick 27 = .ok (.iconst 2, 1) := by decide +kernel
theorem dX9_stick_28 : decode cX9_stick 28 = .ok (.invokevirtual 111, 3) := by decide +kernel
theorem dX9_stick_31 : decode cX9_stick 31 = .ok (.ifCond .eq 5, 3) := by decide +kernel
theorem dX9_stick_34 : decode cX9_stick 34 = .ok (.iconst 0, 1) := by decide +kernel
theorem dX9_stick_35 : decode cX9_stick 35 = .ok (.ireturn, 1) := by decide +kernel
theorem dX9_stick_36 : decode cX9_stick 36 = .ok (.aload_n 0, 1) := by decide +kernel
theorem dX9_stick_37 : decode cX9_stick 37 = .ok (.invokevirtual 114, 3) := by decide +kernel
theorem dX9_stick_40 : decode cX9_stick 40 = .ok (.aload_n 0, 1) := by decide +kernel
theorem dX9_stick_41 : decode cX9_stick 41 = .ok (.getfield 7, 3) := by decide +kernel
theorem dX9_stick_44 : decode cX9_stick 44 = .ok (.bipush 20, 2) := by decide +kernel
theorem dX9_stick_46 : decode cX9_stick 46 = .ok (.iload_n 1, 1) := by decide +kernel
theorem dX9_stick_47 : decode cX9_stick 47 = .ok (.iadd, 1) := by decide +kernel
theorem dX9_stick_48 : decode cX9_stick 48 = .ok (.iaload, 1) := by decide +kernel
theorem dX9_stick_49 : decode cX9_stick 49 = .ok (.istore_n 3, 1) := by decide +kernel
theorem dX9_stick_50 : decode cX9_stick 50 = .ok (.aload_n 0, 1) := by decide +kernel
theorem dX9_stick_51 : decode cX9_stick 51 = .ok (.getfield 7, 3) := by decide +kernel
theorem dX9_stick_54 : decode cX9_stick 54 = .ok (.bipush 20, 2) := by decide +kernel
theorem dX9_stick_56 : decode cX9_stick 56 = .ok (.iload_n 1, 1) := by decide +kernel
theorem dX9_stick_57 : decode cX9_stick 57 = .ok (.iadd, 1) := by decide +kernel
theorem dX9_stick_58 : decode cX9_stick 58 = .ok (.iload_n 2, 1) := by decide +kernel
theorem dX9_stick_59 : decode cX9_stick 59 = .ok (.iastore, 1) := by decide +kernel
theorem dX9_stick_60 : decode cX9_stick 60 = .ok (.iload_n 3, 1) := by decide +kernel
theorem dX9_stick_61 : decode cX9_stick 61 = .ok (.ireturn, 1) := by decide +kernel
theorem dX9_badTable_0 : decode cX9_badTable 0 = .ok (.iload_n 0, 1) := by decide +kernel
theorem dX9_badTable_1 : decode cX9_badTable 1 = .ok (.invokestatic 55, 3) := by decide +kernel
theorem dX9_badTable_4 : decode cX9_badTable 4 = .ok (.ifCond .eq 10, 3) := by decide +kernel
theorem dX9_badTable_7 : decode cX9_badTable 7 = .ok (.iload_n 1, 1) := by decide +kernel
theorem dX9_badTable_8 : decode cX9_badTable 8 = .ok (.invokestatic 55, 3) := by decide +kernel
theorem dX9_badTable_11 : decode cX9_badTable 11 = .ok (.ifCond .ne 7, 3) := by decide +kernel
theorem dX9_badTable_14 : decode cX9_badTable 14 = .ok (.iconst 1, 1) := by decide +kernel
theorem dX9_badTable_15 : decode cX9_badTable 15 = .ok (.goto 27, 3) := by decide +kernel
theorem dX9_badTable_18 : decode cX9_badTable 18 = .ok (.iload_n 0, 1) := by decide +kernel
theorem dX9_badTable_19 : decode cX9_badTable 19 = .ok (.iload_n 1, 1) := by decide +kernel
theorem dX9_badTable_20 : decode cX9_badTable 20 = .ok (.if_icmp .eq 17, 3) := by decide +kernel
theorem dX9_badTable_23 : decode cX9_badTable 23 = .ok (.iload_n 2, 1) := by decide +kernel
theorem dX9_badTable_24 : decode cX9_badTable 24 = .ok (.invokestatic 117, 3) := by decide +kernel
theorem dX9_badTable_27 : decode cX9_badTable 27 = .ok (.ifCond .eq 10, 3) := by decide +kernel
theorem dX9_badTable_30 : decode cX9_badTable 30 = .ok (.iload_n 3, 1) := by decide +kernel
theorem dX9_badTable_31 : decode cX9_badTable 31 = .ok (.invokestatic 117, 3) := by decide +kernel
theorem dX9_badTable_34 : decode cX9_badTable 34 = .ok (.ifCond .ne 7, 3) := by decide +kernel
theorem dX9_badTable_37 : decode cX9_badTable 37 = .ok (.iconst 2, 1) := by decide +kernel
theorem dX9_badTable_38 : decode cX9_badTable 38 = .ok (.goto 4, 3) := by decide +kernel
theorem dX9_badTable_41 : decode cX9_badTable 41 = .ok (.iconst 0, 1) := by decide +kernel
theorem dX9_badTable_42 : decode cX9_badTable 42 = .ok (.ireturn, 1) := by decide +kernel
theorem dX9_table_0 : decode cX9_table 0 = .ok (.iload_n 1, 1) := by decide +kernel
theorem dX9_table_1 : decode cX9_table 1 = .ok (.iload_n 2, 1) := by decide +kernel
theorem dX9_table_2 : decode cX9_table 2 = .ok (.iload_n 3, 1) := by decide +kernel
theorem dX9_table_3 : decode cX9_table 3 = .ok (.iload 4, 2) := by decide +kernel
theorem dX9_table_5 : decode cX9_table 5 = .ok (.invokestatic 120, 3) := by decide +kernel
theorem dX9_table_8 : decode cX9_table 8 = .ok (.istore 5, 2) := by decide +kernel
theorem dX9_table_10 : decode cX9_table 10 = .ok (.aload_n 0, 1) := by decide +kernel
theorem dX9_table_11 : decode cX9_table 11 = .ok (.iload 5, 2) := by decide +kernel
theorem dX9_table_13 : decode cX9_table 13 = .ok (.ifCond .le 8, 3) := by decide +kernel
theorem dX9_table_16 : decode cX9_table 16 = .ok (.iload 5, 2) := by decide +kernel
theorem dX9_table_18 : decode cX9_table 18 = .ok (.goto 20, 3) := by decide +kernel
theorem dX9_table_21 : decode cX9_table 21 = .ok (.aload_n 0, 1) := by decide +kernel
theorem dX9_table_22 : decode cX9_table 22 = .ok (.iload_n 1, 1) := by decide +kernel
theorem dX9_table_23 : decode cX9_table 23 = .ok (.iload_n 2, 1) := by decide +kernel
theorem dX9_table_24 : decode cX9_table 24 = .ok (.iload_n 3, 1) := by decide +kernel
theorem dX9_table_25 : decode cX9_table 25 = .ok (.iload 4, 2) := by decide +kernel
theorem dX9_table_27 : decode cX9_table 27 = .ok (.invokevirtual 124, 3) := by decide +kernel
theorem dX9_table_30 : decode cX9_table 30 = .ok (.ifCond .le 7, 3) := by decide +kernel
theorem dX9_table_33 : decode cX9_table 33 = .ok (.iconst 3, 1) := by decide +kernel
theorem dX9_table_34 : decode cX9_table 34 = .ok (.goto 4, 3) := by decide +kernel
theorem dX9_table_37 : decode cX9_table 37 = .ok (.iconst 0, 1) := by decide +kernel
theorem dX9_table_38 : decode cX9_table 38 = .ok (.invokevirtual 111, 3) := by decide +kernel
theorem dX9_table_41 : decode cX9_table 41 = .ok (.ifCond .eq 5, 3) := by decide +kernel
theorem dX9_table_44 : decode cX9_table 44 = .ok (.iconst 0, 1) := by decide +kernel
theorem dX9_table_45 : decode cX9_table 45 = .ok (.ireturn, 1) := by decide +kernel
theorem dX9_table_46 : decode cX9_table 46 = .ok (.aload_n 0, 1) := by decide +kernel
theorem dX9_table_47 : decode cX9_table 47 = .ok (.invokevirtual 114, 3) := by decide +kernel
theorem dX9_table_50 : decode cX9_table 50 = .ok (.aload_n 0, 1) := by decide +kernel
theorem dX9_table_51 : decode cX9_table 51 = .ok (.iload_n 1, 1) := by decide +kernel
theorem dX9_table_52 : decode cX9_table 52 = .ok (.iload_n 2, 1) := by decide +kernel
theorem dX9_table_53 : decode cX9_table 53 = .ok (.iload_n 3, 1) := by decide +kernel
theorem dX9_table_54 : decode cX9_table 54 = .ok (.iload 4, 2) := by decide +kernel
theorem dX9_table_56 : decode cX9_table 56 = .ok (.invokevirtual 104, 3) := by decide +kernel
theorem dX9_table_59 : decode cX9_table 59 = .ok (.aload_n 0, 1) := by decide +kernel
theorem dX9_table_60 : decode cX9_table 60 = .ok (.invokevirtual 127, 3) := by decide +kernel
theorem dX9_table_63 : decode cX9_table 63 = .ok (.ireturn, 1) := by decide +kernel
theorem dX9_drop_0 : decode cX9_drop 0 = .ok (.aload_n 0, 1) := by decide +kernel
theorem dX9_drop_1 : decode cX9_drop 1 = .ok (.iload_n 1, 1) := by decide +kernel
theorem dX9_drop_2 : decode cX9_drop 2 = .ok (.invokestatic 55, 3) := by decide +kernel
theorem dX9_drop_5 : decode cX9_drop 5 = .ok (.ifCond .eq 10, 3) := by decide +kernel
theorem dX9_drop_8 : decode cX9_drop 8 = .ok (.iload_n 2, 1) := by decide +kernel
theorem dX9_drop_9 : decode cX9_drop 9 = .ok (.invokestatic 55, 3) := by decide +kernel
theorem dX9_drop_12 : decode cX9_drop 12 = .ok (.ifCond .ne 7, 3) := by decide +kernel
theorem dX9_drop_15 : decode cX9_drop 15 = .ok (.iconst 1, 1) := by decide +kernel
theorem dX9_drop_16 : decode cX9_drop 16 = .ok (.goto 17, 3) := by decide +kernel
theorem dX9_drop_19 : decode cX9_drop 19 = .ok (.aload_n 0, 1) := by decide +kernel
theorem dX9_drop_20 : decode cX9_drop 20 = .ok (.iload_n 1, 1) := by decide +kernel
theorem dX9_drop_21 : decode cX9_drop 21 = .ok (.iload_n 2, 1) := by decide +kernel
theorem dX9_drop_22 : decode cX9_drop 22 = .ok (.invokevirtual 66, 3) := by decide +kernel
theorem dX9_drop_25 : decode cX9_drop 25 = .ok (.ifCond .eq 7, 3) := by decide +kernel
theorem dX9_drop_28 : decode cX9_drop 28 = .ok (.iconst 0, 1) := by decide +kernel
theorem dX9_drop_29 : decode cX9_drop 29 = .ok (.goto 4, 3) := by decide +kernel
theorem dX9_drop_32 : decode cX9_drop 32 = .ok (.iconst 2, 1) := by decide +kernel
theorem dX9_drop_33 : decode cX9_drop 33 = .ok (.invokevirtual 111, 3) := by decide +kernel
theorem dX9_drop_36 : decode cX9_drop 36 = .ok (.ifCond .eq 5, 3) := by decide +kernel
theorem dX9_drop_39 : decode cX9_drop 39 = .ok (.iconst 0, 1) := by decide +kernel
theorem dX9_drop_40 : decode cX9_drop 40 = .ok (.ireturn, 1) := by decide +kernel
theorem dX9_drop_41 : decode cX9_drop 41 = .ok (.aload_n 0, 1) := by decide +kernel
theorem dX9_drop_42 : decode cX9_drop 42 = .ok (.invokevirtual 114, 3) := by decide +kernel
theorem dX9_drop_45 : decode cX9_drop 45 = .ok (.aload_n 0, 1) := by decide +kernel
theorem dX9_drop_46 : decode cX9_drop 46 = .ok (.iload_n 1, 1) := by decide +kernel
theorem dX9_drop_47 : decode cX9_drop 47 = .ok (.iload_n 2, 1) := by decide +kernel
theorem dX9_drop_48 : decode cX9_drop 48 = .ok (.iconst 0, 1) := by decide +kernel
theorem dX9_drop_49 : decode cX9_drop 49 = .ok (.iconst 0, 1) := by decide +kernel
theorem dX9_drop_50 : decode cX9_drop 50 = .ok (.invokevirtual 104, 3) := by decide +kernel
theorem dX9_drop_53 : decode cX9_drop 53 = .ok (.aload_n 0, 1) := by decide +kernel
theorem dX9_drop_54 : decode cX9_drop 54 = .ok (.invokevirtual 127, 3) := by decide +kernel
theorem dX9_drop_57 : decode cX9_drop 57 = .ok (.ireturn, 1) := by decide +kernel
theorem dX9_set_0 : decode cX9_set 0 = .ok (.iload_n 1, 1) := by decide +kernel
theorem dX9_set_1 : decode cX9_set 1 = .ok (.ifCond .ne 14, 3) := by decide +kernel
theorem dX9_set_4 : decode cX9_set 4 = .ok (.iload_n 2, 1) := by decide +kernel
theorem dX9_set_5 : decode cX9_set 5 = .ok (.iconst 0, 1) := by decide +kernel
theorem dX9_set_6 : decode cX9_set 6 = .ok (.sipush 500, 3) := by decide +kernel
theorem dX9_set_9 : decode cX9_set 9 = .ok (.invokestatic 44, 3) := by decide +kernel
theorem dX9_set_12 : decode cX9_set 12 = .ok (.goto 23, 3) := by decide +kernel
theorem dX9_set_15 : decode cX9_set 15 = .ok (.iload_n 1, 1) := by decide +kernel
theorem dX9_set_16 : decode cX9_set 16 = .ok (.iconst 1, 1) := by decide +kernel
theorem dX9_set_17 : decode cX9_set 17 = .ok (.if_icmp .ne 12, 3) := by decide +kernel
theorem dX9_set_20 : decode cX9_set 20 = .ok (.iload_n 2, 1) := by decide +kernel
theorem dX9_set_21 : decode cX9_set 21 = .ok (.iconst 0, 1) := by decide +kernel
theorem dX9_set_22 : decode cX9_set 22 = .ok (.iconst 1, 1) := by decide +kernel
theorem dX9_set_23 : decode cX9_set 23 = .ok (.invokestatic 44, 3) := by decide +kernel
theorem dX9_set_26 : decode cX9_set 26 = .ok (.goto 9, 3) := by decide +kernel
theorem dX9_set_29 : decode cX9_set 29 = .ok (.iload_n 2, 1) := by decide +kernel
theorem dX9_set_30 : decode cX9_set 30 = .ok (.iconst 1, 1) := by decide +kernel
theorem dX9_set_31 : decode cX9_set 31 = .ok (.iconst 4, 1) := by decide +kernel
theorem dX9_set_32 : decode cX9_set 32 = .ok (.invokestatic 44, 3) := by decide +kernel
theorem dX9_set_35 : decode cX9_set 35 = .ok (.istore_n 3, 1) := by decide +kernel
theorem dX9_set_36 : decode cX9_set 36 = .ok (.aload_n 0, 1) := by decide +kernel
theorem dX9_set_37 : decode cX9_set 37 = .ok (.iload_n 1, 1) := by decide +kernel
theorem dX9_set_38 : decode cX9_set 38 = .ok (.iconst 0, 1) := by decide +kernel
theorem dX9_set_39 : decode cX9_set 39 = .ok (.iconst 2, 1) := by decide +kernel
theorem dX9_set_40 : decode cX9_set 40 = .ok (.invokestatic 44, 3) := by decide +kernel
theorem dX9_set_43 : decode cX9_set 43 = .ok (.ifCond .ne 7, 3) := by decide +kernel
theorem dX9_set_46 : decode cX9_set 46 = .ok (.iconst 1, 1) := by decide +kernel
theorem dX9_set_47 : decode cX9_set 47 = .ok (.goto 12, 3) := by decide +kernel
theorem dX9_set_50 : decode cX9_set 50 = .ok (.iload_n 3, 1) := by decide +kernel
theorem dX9_set_51 : decode cX9_set 51 = .ok (.ifCond .eq 7, 3) := by decide +kernel
theorem dX9_set_54 : decode cX9_set 54 = .ok (.iconst 0, 1) := by decide +kernel
theorem dX9_set_55 : decode cX9_set 55 = .ok (.goto 4, 3) := by decide +kernel
theorem dX9_set_58 : decode cX9_set 58 = .ok (.iconst 2, 1) := by decide +kernel
theorem dX9_set_59 : decode cX9_set 59 = .ok (.invokevirtual 111, 3) := by decide +kernel
theorem dX9_set_62 : decode cX9_set 62 = .ok (.ifCond .eq 5, 3) := by decide +kernel
theorem dX9_set_65 : decode cX9_set 65 = .ok (.iconst 0, 1) := by decide +kernel
theorem dX9_set_66 : decode cX9_set 66 = .ok (.ireturn, 1) := by decide +kernel
theorem dX9_set_67 : decode cX9_set 67 = .ok (.aload_n 0, 1) := by decide +kernel
theorem dX9_set_68 : decode cX9_set 68 = .ok (.invokevirtual 114, 3) := by decide +kernel
theorem dX9_set_71 : decode cX9_set 71 = .ok (.aload_n 0, 1) := by decide +kernel
theorem dX9_set_72 : decode cX9_set 72 = .ok (.getfield 7, 3) := by decide +kernel
theorem dX9_set_75 : decode cX9_set 75 = .ok (.bipush 25, 2) := by decide +kernel
theorem dX9_set_77 : decode cX9_set 77 = .ok (.iload_n 1, 1) := by decide +kernel
theorem dX9_set_78 : decode cX9_set 78 = .ok (.iadd, 1) := by decide +kernel
theorem dX9_set_79 : decode cX9_set 79 = .ok (.iaload, 1) := by decide +kernel
theorem dX9_set_80 : decode cX9_set 80 = .ok (.istore 4, 2) := by decide +kernel
theorem dX9_set_82 : decode cX9_set 82 = .ok (.aload_n 0, 1) := by decide +kernel
theorem dX9_set_83 : decode cX9_set 83 = .ok (.getfield 7, 3) := by decide +kernel
theorem dX9_set_86 : decode cX9_set 86 = .ok (.bipush 25, 2) := by decide +kernel
theorem dX9_set_88 : decode cX9_set 88 = .ok (.iload_n 1, 1) := by decide +kernel
theorem dX9_set_89 : decode cX9_set 89 = .ok (.iadd, 1) := by decide +kernel
theorem dX9_set_90 : decode cX9_set 90 = .ok (.iload_n 2, 1) := by decide +kernel
theorem dX9_set_91 : decode cX9_set 91 = .ok (.iastore, 1) := by decide +kernel
theorem dX9_set_92 : decode cX9_set 92 = .ok (.iload 4, 2) := by decide +kernel
theorem dX9_set_94 : decode cX9_set 94 = .ok (.ireturn, 1) := by decide +kernel
theorem dX9_ofBolt_0 : decode cX9_ofBolt 0 = .ok (.aload_n 0, 1) := by decide +kernel
theorem dX9_ofBolt_1 : decode cX9_ofBolt 1 = .ok (.getfield 7, 3) := by decide +kernel
theorem dX9_ofBolt_4 : decode cX9_ofBolt 4 = .ok (.bipush 28, 2) := by decide +kernel
theorem dX9_ofBolt_6 : decode cX9_ofBolt 6 = .ok (.iconst 4, 1) := by decide +kernel
theorem dX9_ofBolt_7 : decode cX9_ofBolt 7 = .ok (.iload_n 1, 1) := by decide +kernel
theorem dX9_ofBolt_8 : decode cX9_ofBolt 8 = .ok (.imul, 1) := by decide +kernel
theorem dX9_ofBolt_9 : decode cX9_ofBolt 9 = .ok (.iadd, 1) := by decide +kernel
theorem dX9_ofBolt_10 : decode cX9_ofBolt 10 = .ok (.iload_n 2, 1) := by decide +kernel
theorem dX9_ofBolt_11 : decode cX9_ofBolt 11 = .ok (.iadd, 1) := by decide +kernel
theorem dX9_ofBolt_12 : decode cX9_ofBolt 12 = .ok (.iaload, 1) := by decide +kernel
theorem dX9_ofBolt_13 : decode cX9_ofBolt 13 = .ok (.ireturn, 1) := by decide +kernel
theorem dX9_turns_0 : decode cX9_turns 0 = .ok (.lload_n 3, 1) := by decide +kernel
theorem dX9_turns_1 : decode cX9_turns 1 = .ok (.aload_n 0, 1) := by decide +kernel
theorem dX9_turns_2 : decode cX9_turns 2 = .ok (.iload_n 1, 1) := by decide +kernel
theorem dX9_turns_3 : decode cX9_turns 3 = .ok (.iload_n 2, 1) := by decide +kernel
theorem dX9_turns_4 : decode cX9_turns 4 = .ok (.invokevirtual 69, 3) := by decide +kernel
theorem dX9_turns_7 : decode cX9_turns 7 = .ok (.i2l, 1) := by decide +kernel
theorem dX9_turns_8 : decode cX9_turns 8 = .ok (.lmul, 1) := by decide +kernel
theorem dX9_turns_9 : decode cX9_turns 9 = .ok (.lstore 5, 2) := by decide +kernel
theorem dX9_turns_11 : decode cX9_turns 11 = .ok (.aload_n 0, 1) := by decide +kernel
theorem dX9_turns_12 : decode cX9_turns 12 = .ok (.iload_n 1, 1) := by decide +kernel
theorem dX9_turns_13 : decode cX9_turns 13 = .ok (.iload_n 2, 1) := by decide +kernel
theorem dX9_turns_14 : decode cX9_turns 14 = .ok (.invokevirtual 72, 3) := by decide +kernel
theorem dX9_turns_17 : decode cX9_turns 17 = .ok (.i2l, 1) := by decide +kernel
theorem dX9_turns_18 : decode cX9_turns 18 = .ok (.lstore 7, 2) := by decide +kernel
theorem dX9_turns_20 : decode cX9_turns 20 = .ok (.aload_n 0, 1) := by decide +kernel
theorem dX9_turns_21 : decode cX9_turns 21 = .ok (.getfield 7, 3) := by decide +kernel
theorem dX9_turns_24 : decode cX9_turns 24 = .ok (.bipush 26, 2) := by decide +kernel
theorem dX9_turns_26 : decode cX9_turns 26 = .ok (.iaload, 1) := by decide +kernel
theorem dX9_turns_27 : decode cX9_turns 27 = .ok (.iconst 1, 1) := by decide +kernel
theorem dX9_turns_28 : decode cX9_turns 28 = .ok (.if_icmp .ne 11, 3) := by decide +kernel
theorem dX9_turns_31 : decode cX9_turns 31 = .ok (.lload 5, 2) := by decide +kernel
theorem dX9_turns_33 : decode cX9_turns 33 = .ok (.lload 7, 2) := by decide +kernel
theorem dX9_turns_35 : decode cX9_turns 35 = .ok (.ldiv, 1) := by decide +kernel
theorem dX9_turns_36 : decode cX9_turns 36 = .ok (.goto 19, 3) := by decide +kernel
theorem dX9_turns_39 : decode cX9_turns 39 = .ok (.ldc2_w 131, 3) := by decide +kernel
theorem dX9_turns_42 : decode cX9_turns 42 = .ok (.lload 5, 2) := by decide +kernel
theorem dX9_turns_44 : decode cX9_turns 44 = .ok (.lmul, 1) := by decide +kernel
theorem dX9_turns_45 : decode cX9_turns 45 = .ok (.lload 7, 2) := by decide +kernel
theorem dX9_turns_47 : decode cX9_turns 47 = .ok (.ladd, 1) := by decide +kernel
theorem dX9_turns_48 : decode cX9_turns 48 = .ok (.ldc2_w 131, 3) := by decide +kernel
theorem dX9_turns_51 : decode cX9_turns 51 = .ok (.lload 7, 2) := by decide +kernel
theorem dX9_turns_53 : decode cX9_turns 53 = .ok (.lmul, 1) := by decide +kernel
theorem dX9_turns_54 : decode cX9_turns 54 = .ok (.ldiv, 1) := by decide +kernel
theorem dX9_turns_55 : decode cX9_turns 55 = .ok (.lreturn, 1) := by decide +kernel
theorem dX9_gains_0 : decode cX9_gains 0 = .ok (.aload_n 0, 1) := by decide +kernel
theorem dX9_gains_1 : decode cX9_gains 1 = .ok (.iload_n 1, 1) := by decide +kernel
theorem dX9_gains_2 : decode cX9_gains 2 = .ok (.iload_n 2, 1) := by decide +kernel
theorem dX9_gains_3 : decode cX9_gains 3 = .ok (.invokevirtual 72, 3) := by decide +kernel
theorem dX9_gains_6 : decode cX9_gains 6 = .ok (.i2l, 1) := by decide +kernel
theorem dX9_gains_7 : decode cX9_gains 7 = .ok (.lstore 5, 2) := by decide +kernel
theorem dX9_gains_9 : decode cX9_gains 9 = .ok (.aload_n 0, 1) := by decide +kernel
theorem dX9_gains_10 : decode cX9_gains 10 = .ok (.iload_n 1, 1) := by decide +kernel
theorem dX9_gains_11 : decode cX9_gains 11 = .ok (.iload_n 2, 1) := by decide +kernel
theorem dX9_gains_12 : decode cX9_gains 12 = .ok (.lload_n 3, 1) := by decide +kernel
theorem dX9_gains_13 : decode cX9_gains 13 = .ok (.invokevirtual 133, 3) := by decide +kernel
theorem dX9_gains_16 : decode cX9_gains 16 = .ok (.lload 5, 2) := by decide +kernel
theorem dX9_gains_18 : decode cX9_gains 18 = .ok (.lmul, 1) := by decide +kernel
theorem dX9_gains_19 : decode cX9_gains 19 = .ok (.lload_n 3, 1) := by decide +kernel
theorem dX9_gains_20 : decode cX9_gains 20 = .ok (.aload_n 0, 1) := by decide +kernel
theorem dX9_gains_21 : decode cX9_gains 21 = .ok (.iload_n 1, 1) := by decide +kernel
theorem dX9_gains_22 : decode cX9_gains 22 = .ok (.iload_n 2, 1) := by decide +kernel
theorem dX9_gains_23 : decode cX9_gains 23 = .ok (.invokevirtual 69, 3) := by decide +kernel
theorem dX9_gains_26 : decode cX9_gains 26 = .ok (.i2l, 1) := by decide +kernel
theorem dX9_gains_27 : decode cX9_gains 27 = .ok (.lmul, 1) := by decide +kernel
theorem dX9_gains_28 : decode cX9_gains 28 = .ok (.lsub, 1) := by decide +kernel
theorem dX9_gains_29 : decode cX9_gains 29 = .ok (.ldc2_w 137, 3) := by decide +kernel
theorem dX9_gains_32 : decode cX9_gains 32 = .ok (.lmul, 1) := by decide +kernel
theorem dX9_gains_33 : decode cX9_gains 33 = .ok (.lload 5, 2) := by decide +kernel
theorem dX9_gains_35 : decode cX9_gains 35 = .ok (.invokestatic 81, 3) := by decide +kernel
theorem dX9_gains_38 : decode cX9_gains 38 = .ok (.lreturn, 1) := by decide +kernel
theorem dX9_comes_0 : decode cX9_comes 0 = .ok (.aload_n 0, 1) := by decide +kernel
theorem dX9_comes_1 : decode cX9_comes 1 = .ok (.getfield 7, 3) := by decide +kernel
theorem dX9_comes_4 : decode cX9_comes 4 = .ok (.bipush 60, 2) := by decide +kernel
theorem dX9_comes_6 : decode cX9_comes 6 = .ok (.iaload, 1) := by decide +kernel
theorem dX9_comes_7 : decode cX9_comes 7 = .ok (.istore_n 3, 1) := by decide +kernel
theorem dX9_comes_8 : decode cX9_comes 8 = .ok (.aload_n 0, 1) := by decide +kernel
theorem dX9_comes_9 : decode cX9_comes 9 = .ok (.getfield 7, 3) := by decide +kernel
theorem dX9_comes_12 : decode cX9_comes 12 = .ok (.bipush 28, 2) := by decide +kernel
theorem dX9_comes_14 : decode cX9_comes 14 = .ok (.iconst 4, 1) := by decide +kernel
theorem dX9_comes_15 : decode cX9_comes 15 = .ok (.iload_n 3, 1) := by decide +kernel
theorem dX9_comes_16 : decode cX9_comes 16 = .ok (.imul, 1) := by decide +kernel
theorem dX9_comes_17 : decode cX9_comes 17 = .ok (.iadd, 1) := by decide +kernel
theorem dX9_comes_18 : decode cX9_comes 18 = .ok (.iload_n 1, 1) := by decide +kernel
theorem dX9_comes_19 : decode cX9_comes 19 = .ok (.iastore, 1) := by decide +kernel
theorem dX9_comes_20 : decode cX9_comes 20 = .ok (.aload_n 0, 1) := by decide +kernel
theorem dX9_comes_21 : decode cX9_comes 21 = .ok (.getfield 7, 3) := by decide +kernel
theorem dX9_comes_24 : decode cX9_comes 24 = .ok (.bipush 28, 2) := by decide +kernel
theorem dX9_comes_26 : decode cX9_comes 26 = .ok (.iconst 4, 1) := by decide +kernel
theorem dX9_comes_27 : decode cX9_comes 27 = .ok (.iload_n 3, 1) := by decide +kernel
theorem dX9_comes_28 : decode cX9_comes 28 = .ok (.imul, 1) := by decide +kernel
theorem dX9_comes_29 : decode cX9_comes 29 = .ok (.iadd, 1) := by decide +kernel
theorem dX9_comes_30 : decode cX9_comes 30 = .ok (.iconst 1, 1) := by decide +kernel
theorem dX9_comes_31 : decode cX9_comes 31 = .ok (.iadd, 1) := by decide +kernel
theorem dX9_comes_32 : decode cX9_comes 32 = .ok (.iload_n 2, 1) := by decide +kernel
theorem dX9_comes_33 : decode cX9_comes 33 = .ok (.iastore, 1) := by decide +kernel
theorem dX9_comes_34 : decode cX9_comes 34 = .ok (.aload_n 0, 1) := by decide +kernel
theorem dX9_comes_35 : decode cX9_comes 35 = .ok (.getfield 7, 3) := by decide +kernel
theorem dX9_comes_38 : decode cX9_comes 38 = .ok (.bipush 28, 2) := by decide +kernel
theorem dX9_comes_40 : decode cX9_comes 40 = .ok (.iconst 4, 1) := by decide +kernel
theorem dX9_comes_41 : decode cX9_comes 41 = .ok (.iload_n 3, 1) := by decide +kernel
theorem dX9_comes_42 : decode cX9_comes 42 = .ok (.imul, 1) := by decide +kernel
theorem dX9_comes_43 : decode cX9_comes 43 = .ok (.iadd, 1) := by decide +kernel
theorem dX9_comes_44 : decode cX9_comes 44 = .ok (.iconst 2, 1) := by decide +kernel
theorem dX9_comes_45 : decode cX9_comes 45 = .ok (.iadd, 1) := by decide +kernel
theorem dX9_comes_46 : decode cX9_comes 46 = .ok (.iconst 0, 1) := by decide +kernel
theorem dX9_comes_47 : decode cX9_comes 47 = .ok (.iastore, 1) := by decide +kernel
theorem dX9_comes_48 : decode cX9_comes 48 = .ok (.aload_n 0, 1) := by decide +kernel
theorem dX9_comes_49 : decode cX9_comes 49 = .ok (.getfield 7, 3) := by decide +kernel
theorem dX9_comes_52 : decode cX9_comes 52 = .ok (.bipush 28, 2) := by decide +kernel
theorem dX9_comes_54 : decode cX9_comes 54 = .ok (.iconst 4, 1) := by decide +kernel
theorem dX9_comes_55 : decode cX9_comes 55 = .ok (.iload_n 3, 1) := by decide +kernel
theorem dX9_comes_56 : decode cX9_comes 56 = .ok (.imul, 1) := by decide +kernel
theorem dX9_comes_57 : decode cX9_comes 57 = .ok (.iadd, 1) := by decide +kernel
theorem dX9_comes_58 : decode cX9_comes 58 = .ok (.iconst 3, 1) := by decide +kernel
theorem dX9_comes_59 : decode cX9_comes 59 = .ok (.iadd, 1) := by decide +kernel
theorem dX9_comes_60 : decode cX9_comes 60 = .ok (.iconst 0, 1) := by decide +kernel
theorem dX9_comes_61 : decode cX9_comes 61 = .ok (.iastore, 1) := by decide +kernel
theorem dX9_comes_62 : decode cX9_comes 62 = .ok (.aload_n 0, 1) := by decide +kernel
theorem dX9_comes_63 : decode cX9_comes 63 = .ok (.getfield 7, 3) := by decide +kernel
theorem dX9_comes_66 : decode cX9_comes 66 = .ok (.bipush 60, 2) := by decide +kernel
theorem dX9_comes_68 : decode cX9_comes 68 = .ok (.dup2, 1) := by decide +kernel
theorem dX9_comes_69 : decode cX9_comes 69 = .ok (.iaload, 1) := by decide +kernel
theorem dX9_comes_70 : decode cX9_comes 70 = .ok (.iconst 1, 1) := by decide +kernel
theorem dX9_comes_71 : decode cX9_comes 71 = .ok (.iadd, 1) := by decide +kernel
theorem dX9_comes_72 : decode cX9_comes 72 = .ok (.iastore, 1) := by decide +kernel
theorem dX9_comes_73 : decode cX9_comes 73 = .ok (.iload_n 3, 1) := by decide +kernel
theorem dX9_comes_74 : decode cX9_comes 74 = .ok (.ireturn, 1) := by decide +kernel
theorem dX9_bolt_0 : decode cX9_bolt 0 = .ok (.aload_n 0, 1) := by decide +kernel
theorem dX9_bolt_1 : decode cX9_bolt 1 = .ok (.iload_n 1, 1) := by decide +kernel
theorem dX9_bolt_2 : decode cX9_bolt 2 = .ok (.invokestatic 55, 3) := by decide +kernel
theorem dX9_bolt_5 : decode cX9_bolt 5 = .ok (.ifCond .ne 7, 3) := by decide +kernel
theorem dX9_bolt_8 : decode cX9_bolt 8 = .ok (.iconst 1, 1) := by decide +kernel
theorem dX9_bolt_9 : decode cX9_bolt 9 = .ok (.goto 35, 3) := by decide +kernel
theorem dX9_bolt_12 : decode cX9_bolt 12 = .ok (.iload_n 2, 1) := by decide +kernel
theorem dX9_bolt_13 : decode cX9_bolt 13 = .ok (.iconst 1, 1) := by decide +kernel
theorem dX9_bolt_14 : decode cX9_bolt 14 = .ok (.sipush 9999, 3) := by decide +kernel
theorem dX9_bolt_17 : decode cX9_bolt 17 = .ok (.invokestatic 44, 3) := by decide +kernel
theorem dX9_bolt_20 : decode cX9_bolt 20 = .ok (.ifCond .ne 7, 3) := by decide +kernel
theorem dX9_bolt_23 : decode cX9_bolt 23 = .ok (.iconst 2, 1) := by decide +kernel
theorem dX9_bolt_24 : decode cX9_bolt 24 = .ok (.goto 20, 3) := by decide +kernel
theorem dX9_bolt_27 : decode cX9_bolt 27 = .ok (.aload_n 0, 1) := by decide +kernel
theorem dX9_bolt_28 : decode cX9_bolt 28 = .ok (.getfield 7, 3) := by decide +kernel
theorem dX9_bolt_31 : decode cX9_bolt 31 = .ok (.bipush 60, 2) := by decide +kernel
theorem dX9_bolt_33 : decode cX9_bolt 33 = .ok (.iaload, 1) := by decide +kernel
theorem dX9_bolt_34 : decode cX9_bolt 34 = .ok (.bipush 8, 2) := by decide +kernel
theorem dX9_bolt_36 : decode cX9_bolt 36 = .ok (.if_icmp .ne 7, 3) := by decide +kernel
theorem dX9_bolt_39 : decode cX9_bolt 39 = .ok (.iconst 3, 1) := by decide +kernel
theorem dX9_bolt_40 : decode cX9_bolt 40 = .ok (.goto 4, 3) := by decide +kernel
theorem dX9_bolt_43 : decode cX9_bolt 43 = .ok (.iconst 0, 1) := by decide +kernel
theorem dX9_bolt_44 : decode cX9_bolt 44 = .ok (.invokevirtual 111, 3) := by decide +kernel
theorem dX9_bolt_47 : decode cX9_bolt 47 = .ok (.ifCond .eq 5, 3) := by decide +kernel
theorem dX9_bolt_50 : decode cX9_bolt 50 = .ok (.iconst 0, 1) := by decide +kernel
theorem dX9_bolt_51 : decode cX9_bolt 51 = .ok (.ireturn, 1) := by decide +kernel
theorem dX9_bolt_52 : decode cX9_bolt 52 = .ok (.aload_n 0, 1) := by decide +kernel
theorem dX9_bolt_53 : decode cX9_bolt 53 = .ok (.invokevirtual 114, 3) := by decide +kernel
theorem dX9_bolt_56 : decode cX9_bolt 56 = .ok (.aload_n 0, 1) := by decide +kernel
theorem dX9_bolt_57 : decode cX9_bolt 57 = .ok (.iload_n 1, 1) := by decide +kernel
theorem dX9_bolt_58 : decode cX9_bolt 58 = .ok (.iload_n 2, 1) := by decide +kernel
theorem dX9_bolt_59 : decode cX9_bolt 59 = .ok (.invokevirtual 139, 3) := by decide +kernel
theorem dX9_bolt_62 : decode cX9_bolt 62 = .ok (.ireturn, 1) := by decide +kernel
theorem dX9_bar_0 : decode cX9_bar 0 = .ok (.aload_n 0, 1) := by decide +kernel
theorem dX9_bar_1 : decode cX9_bar 1 = .ok (.iload_n 1, 1) := by decide +kernel
theorem dX9_bar_2 : decode cX9_bar 2 = .ok (.iconst 0, 1) := by decide +kernel
theorem dX9_bar_3 : decode cX9_bar 3 = .ok (.invokevirtual 142, 3) := by decide +kernel
theorem dX9_bar_6 : decode cX9_bar 6 = .ok (.istore_n 3, 1) := by decide +kernel
theorem dX9_bar_7 : decode cX9_bar 7 = .ok (.iload_n 3, 1) := by decide +kernel
theorem dX9_bar_8 : decode cX9_bar 8 = .ok (.iload_n 2, 1) := by decide +kernel
theorem dX9_bar_9 : decode cX9_bar 9 = .ok (.if_icmp .ne 7, 3) := by decide +kernel
theorem dX9_bar_12 : decode cX9_bar 12 = .ok (.iconst 1, 1) := by decide +kernel
theorem dX9_bar_13 : decode cX9_bar 13 = .ok (.goto 41, 3) := by decide +kernel
theorem dX9_bar_16 : decode cX9_bar 16 = .ok (.aload_n 0, 1) := by decide +kernel
theorem dX9_bar_17 : decode cX9_bar 17 = .ok (.iload_n 3, 1) := by decide +kernel
theorem dX9_bar_18 : decode cX9_bar 18 = .ok (.iload_n 2, 1) := by decide +kernel
theorem dX9_bar_19 : decode cX9_bar 19 = .ok (.invokevirtual 66, 3) := by decide +kernel
theorem dX9_bar_22 : decode cX9_bar 22 = .ok (.ifCond .ne 7, 3) := by decide +kernel
theorem dX9_bar_25 : decode cX9_bar 25 = .ok (.iconst 2, 1) := by decide +kernel
theorem dX9_bar_26 : decode cX9_bar 26 = .ok (.goto 28, 3) := by decide +kernel
theorem dX9_bar_29 : decode cX9_bar 29 = .ok (.aload_n 0, 1) := by decide +kernel
theorem dX9_bar_30 : decode cX9_bar 30 = .ok (.iload_n 3, 1) := by decide +kernel
theorem dX9_bar_31 : decode cX9_bar 31 = .ok (.iload_n 2, 1) := by decide +kernel
theorem dX9_bar_32 : decode cX9_bar 32 = .ok (.aload_n 0, 1) := by decide +kernel
theorem dX9_bar_33 : decode cX9_bar 33 = .ok (.iload_n 1, 1) := by decide +kernel
theorem dX9_bar_34 : decode cX9_bar 34 = .ok (.iconst 1, 1) := by decide +kernel
theorem dX9_bar_35 : decode cX9_bar 35 = .ok (.invokevirtual 142, 3) := by decide +kernel
theorem dX9_bar_38 : decode cX9_bar 38 = .ok (.i2l, 1) := by decide +kernel
theorem dX9_bar_39 : decode cX9_bar 39 = .ok (.invokevirtual 133, 3) := by decide +kernel
theorem dX9_bar_42 : decode cX9_bar 42 = .ok (.ldc2_w 145, 3) := by decide +kernel
theorem dX9_bar_45 : decode cX9_bar 45 = .ok (.lcmp, 1) := by decide +kernel
theorem dX9_bar_46 : decode cX9_bar 46 = .ok (.ifCond .le 7, 3) := by decide +kernel
theorem dX9_bar_49 : decode cX9_bar 49 = .ok (.iconst 3, 1) := by decide +kernel
theorem dX9_bar_50 : decode cX9_bar 50 = .ok (.goto 4, 3) := by decide +kernel
theorem dX9_bar_53 : decode cX9_bar 53 = .ok (.iconst 0, 1) := by decide +kernel
theorem dX9_bar_54 : decode cX9_bar 54 = .ok (.ireturn, 1) := by decide +kernel
theorem dX9_sends_0 : decode cX9_sends 0 = .ok (.aload_n 0, 1) := by decide +kernel
theorem dX9_sends_1 : decode cX9_sends 1 = .ok (.iload_n 1, 1) := by decide +kernel
theorem dX9_sends_2 : decode cX9_sends 2 = .ok (.iconst 0, 1) := by decide +kernel
theorem dX9_sends_3 : decode cX9_sends 3 = .ok (.invokevirtual 142, 3) := by decide +kernel
theorem dX9_sends_6 : decode cX9_sends 6 = .ok (.istore_n 3, 1) := by decide +kernel
theorem dX9_sends_7 : decode cX9_sends 7 = .ok (.aload_n 0, 1) := by decide +kernel
theorem dX9_sends_8 : decode cX9_sends 8 = .ok (.iload_n 1, 1) := by decide +kernel
theorem dX9_sends_9 : decode cX9_sends 9 = .ok (.iconst 1, 1) := by decide +kernel
theorem dX9_sends_10 : decode cX9_sends 10 = .ok (.invokevirtual 142, 3) := by decide +kernel
theorem dX9_sends_13 : decode cX9_sends 13 = .ok (.istore 4, 2) := by decide +kernel
theorem dX9_sends_15 : decode cX9_sends 15 = .ok (.aload_n 0, 1) := by decide +kernel
theorem dX9_sends_16 : decode cX9_sends 16 = .ok (.iload_n 3, 1) := by decide +kernel
theorem dX9_sends_17 : decode cX9_sends 17 = .ok (.iload_n 2, 1) := by decide +kernel
theorem dX9_sends_18 : decode cX9_sends 18 = .ok (.iload 4, 2) := by decide +kernel
theorem dX9_sends_20 : decode cX9_sends 20 = .ok (.i2l, 1) := by decide +kernel
theorem dX9_sends_21 : decode cX9_sends 21 = .ok (.invokevirtual 147, 3) := by decide +kernel
theorem dX9_sends_24 : decode cX9_sends 24 = .ok (.l2i, 1) := by decide +kernel
theorem dX9_sends_25 : decode cX9_sends 25 = .ok (.istore 5, 2) := by decide +kernel
theorem dX9_sends_27 : decode cX9_sends 27 = .ok (.aload_n 0, 1) := by decide +kernel
theorem dX9_sends_28 : decode cX9_sends 28 = .ok (.getfield 7, 3) := by decide +kernel
theorem dX9_sends_31 : decode cX9_sends 31 = .ok (.bipush 28, 2) := by decide +kernel
theorem dX9_sends_33 : decode cX9_sends 33 = .ok (.iconst 4, 1) := by decide +kernel
theorem dX9_sends_34 : decode cX9_sends 34 = .ok (.iload_n 1, 1) := by decide +kernel
theorem dX9_sends_35 : decode cX9_sends 35 = .ok (.imul, 1) := by decide +kernel
theorem dX9_sends_36 : decode cX9_sends 36 = .ok (.iadd, 1) := by decide +kernel
theorem dX9_sends_37 : decode cX9_sends 37 = .ok (.iload_n 2, 1) := by decide +kernel
theorem dX9_sends_38 : decode cX9_sends 38 = .ok (.iastore, 1) := by decide +kernel
theorem dX9_sends_39 : decode cX9_sends 39 = .ok (.aload_n 0, 1) := by decide +kernel
theorem dX9_sends_40 : decode cX9_sends 40 = .ok (.getfield 7, 3) := by decide +kernel
theorem dX9_sends_43 : decode cX9_sends 43 = .ok (.bipush 28, 2) := by decide +kernel
theorem dX9_sends_45 : decode cX9_sends 45 = .ok (.iconst 4, 1) := by decide +kernel
theorem dX9_sends_46 : decode cX9_sends 46 = .ok (.iload_n 1, 1) := by decide +kernel
theorem dX9_sends_47 : decode cX9_sends 47 = .ok (.imul, 1) := by decide +kernel
theorem dX9_sends_48 : decode cX9_sends 48 = .ok (.iadd, 1) := by decide +kernel
theorem dX9_sends_49 : decode cX9_sends 49 = .ok (.iconst 1, 1) := by decide +kernel
theorem dX9_sends_50 : decode cX9_sends 50 = .ok (.iadd, 1) := by decide +kernel
theorem dX9_sends_51 : decode cX9_sends 51 = .ok (.aload_n 0, 1) := by decide +kernel
theorem dX9_sends_52 : decode cX9_sends 52 = .ok (.iload_n 3, 1) := by decide +kernel
theorem dX9_sends_53 : decode cX9_sends 53 = .ok (.iload_n 2, 1) := by decide +kernel
theorem dX9_sends_54 : decode cX9_sends 54 = .ok (.iload 4, 2) := by decide +kernel
theorem dX9_sends_56 : decode cX9_sends 56 = .ok (.i2l, 1) := by decide +kernel
theorem dX9_sends_57 : decode cX9_sends 57 = .ok (.invokevirtual 133, 3) := by decide +kernel
theorem dX9_sends_60 : decode cX9_sends 60 = .ok (.l2i, 1) := by decide +kernel
theorem dX9_sends_61 : decode cX9_sends 61 = .ok (.iastore, 1) := by decide +kernel
theorem dX9_sends_62 : decode cX9_sends 62 = .ok (.aload_n 0, 1) := by decide +kernel
theorem dX9_sends_63 : decode cX9_sends 63 = .ok (.getfield 7, 3) := by decide +kernel
theorem dX9_sends_66 : decode cX9_sends 66 = .ok (.bipush 28, 2) := by decide +kernel
theorem dX9_sends_68 : decode cX9_sends 68 = .ok (.iconst 4, 1) := by decide +kernel
theorem dX9_sends_69 : decode cX9_sends 69 = .ok (.iload_n 1, 1) := by decide +kernel
theorem dX9_sends_70 : decode cX9_sends 70 = .ok (.imul, 1) := by decide +kernel
theorem dX9_sends_71 : decode cX9_sends 71 = .ok (.iadd, 1) := by decide +kernel
theorem dX9_sends_72 : decode cX9_sends 72 = .ok (.iconst 2, 1) := by decide +kernel
theorem dX9_sends_73 : decode cX9_sends 73 = .ok (.iadd, 1) := by decide +kernel
theorem dX9_sends_74 : decode cX9_sends 74 = .ok (.dup2, 1) := by decide +kernel
theorem dX9_sends_75 : decode cX9_sends 75 = .ok (.iaload, 1) := by decide +kernel
theorem dX9_sends_76 : decode cX9_sends 76 = .ok (.iload 5, 2) := by decide +kernel
theorem dX9_sends_78 : decode cX9_sends 78 = .ok (.iadd, 1) := by decide +kernel
theorem dX9_sends_79 : decode cX9_sends 79 = .ok (.iastore, 1) := by decide +kernel
theorem dX9_sends_80 : decode cX9_sends 80 = .ok (.aload_n 0, 1) := by decide +kernel
theorem dX9_sends_81 : decode cX9_sends 81 = .ok (.getfield 7, 3) := by decide +kernel
theorem dX9_sends_84 : decode cX9_sends 84 = .ok (.bipush 28, 2) := by decide +kernel
theorem dX9_sends_86 : decode cX9_sends 86 = .ok (.iconst 4, 1) := by decide +kernel
theorem dX9_sends_87 : decode cX9_sends 87 = .ok (.iload_n 1, 1) := by decide +kernel
theorem dX9_sends_88 : decode cX9_sends 88 = .ok (.imul, 1) := by decide +kernel
theorem dX9_sends_89 : decode cX9_sends 89 = .ok (.iadd, 1) := by decide +kernel
theorem dX9_sends_90 : decode cX9_sends 90 = .ok (.iconst 3, 1) := by decide +kernel
theorem dX9_sends_91 : decode cX9_sends 91 = .ok (.iadd, 1) := by decide +kernel
theorem dX9_sends_92 : decode cX9_sends 92 = .ok (.dup2, 1) := by decide +kernel
theorem dX9_sends_93 : decode cX9_sends 93 = .ok (.iaload, 1) := by decide +kernel
theorem dX9_sends_94 : decode cX9_sends 94 = .ok (.iconst 1, 1) := by decide +kernel
theorem dX9_sends_95 : decode cX9_sends 95 = .ok (.iadd, 1) := by decide +kernel
theorem dX9_sends_96 : decode cX9_sends 96 = .ok (.iastore, 1) := by decide +kernel
theorem dX9_sends_97 : decode cX9_sends 97 = .ok (.aload_n 0, 1) := by decide +kernel
theorem dX9_sends_98 : decode cX9_sends 98 = .ok (.getfield 7, 3) := by decide +kernel
theorem dX9_sends_101 : decode cX9_sends 101 = .ok (.bipush 61, 2) := by decide +kernel
theorem dX9_sends_103 : decode cX9_sends 103 = .ok (.dup2, 1) := by decide +kernel
theorem dX9_sends_104 : decode cX9_sends 104 = .ok (.iaload, 1) := by decide +kernel
theorem dX9_sends_105 : decode cX9_sends 105 = .ok (.iload 5, 2) := by decide +kernel
theorem dX9_sends_107 : decode cX9_sends 107 = .ok (.iadd, 1) := by decide +kernel
theorem dX9_sends_108 : decode cX9_sends 108 = .ok (.iastore, 1) := by decide +kernel
theorem dX9_sends_109 : decode cX9_sends 109 = .ok (.aload_n 0, 1) := by decide +kernel
theorem dX9_sends_110 : decode cX9_sends 110 = .ok (.iload_n 1, 1) := by decide +kernel
theorem dX9_sends_111 : decode cX9_sends 111 = .ok (.iconst 1, 1) := by decide +kernel
theorem dX9_sends_112 : decode cX9_sends 112 = .ok (.invokevirtual 142, 3) := by decide +kernel
theorem dX9_sends_115 : decode cX9_sends 115 = .ok (.ireturn, 1) := by decide +kernel
theorem dX9_send_0 : decode cX9_send 0 = .ok (.aload_n 0, 1) := by decide +kernel
theorem dX9_send_1 : decode cX9_send 1 = .ok (.aload_n 0, 1) := by decide +kernel
theorem dX9_send_2 : decode cX9_send 2 = .ok (.iload_n 1, 1) := by decide +kernel
theorem dX9_send_3 : decode cX9_send 3 = .ok (.invokevirtual 150, 3) := by decide +kernel
theorem dX9_send_6 : decode cX9_send 6 = .ok (.ifCond .eq 10, 3) := by decide +kernel
theorem dX9_send_9 : decode cX9_send 9 = .ok (.iload_n 2, 1) := by decide +kernel
theorem dX9_send_10 : decode cX9_send 10 = .ok (.invokestatic 55, 3) := by decide +kernel
theorem dX9_send_13 : decode cX9_send 13 = .ok (.ifCond .ne 7, 3) := by decide +kernel
theorem dX9_send_16 : decode cX9_send 16 = .ok (.iconst 1, 1) := by decide +kernel
theorem dX9_send_17 : decode cX9_send 17 = .ok (.goto 17, 3) := by decide +kernel
theorem dX9_send_20 : decode cX9_send 20 = .ok (.aload_n 0, 1) := by decide +kernel
theorem dX9_send_21 : decode cX9_send 21 = .ok (.iload_n 1, 1) := by decide +kernel
theorem dX9_send_22 : decode cX9_send 22 = .ok (.iload_n 2, 1) := by decide +kernel
theorem dX9_send_23 : decode cX9_send 23 = .ok (.invokevirtual 153, 3) := by decide +kernel
theorem dX9_send_26 : decode cX9_send 26 = .ok (.ifCond .le 7, 3) := by decide +kernel
theorem dX9_send_29 : decode cX9_send 29 = .ok (.iconst 2, 1) := by decide +kernel
theorem dX9_send_30 : decode cX9_send 30 = .ok (.goto 4, 3) := by decide +kernel
theorem dX9_send_33 : decode cX9_send 33 = .ok (.iconst 0, 1) := by decide +kernel
theorem dX9_send_34 : decode cX9_send 34 = .ok (.invokevirtual 111, 3) := by decide +kernel
theorem dX9_send_37 : decode cX9_send 37 = .ok (.ifCond .eq 5, 3) := by decide +kernel
theorem dX9_send_40 : decode cX9_send 40 = .ok (.iconst 0, 1) := by decide +kernel
theorem dX9_send_41 : decode cX9_send 41 = .ok (.ireturn, 1) := by decide +kernel
theorem dX9_send_42 : decode cX9_send 42 = .ok (.aload_n 0, 1) := by decide +kernel
theorem dX9_send_43 : decode cX9_send 43 = .ok (.invokevirtual 114, 3) := by decide +kernel
theorem dX9_send_46 : decode cX9_send 46 = .ok (.aload_n 0, 1) := by decide +kernel
theorem dX9_send_47 : decode cX9_send 47 = .ok (.iload_n 1, 1) := by decide +kernel
theorem dX9_send_48 : decode cX9_send 48 = .ok (.iload_n 2, 1) := by decide +kernel
theorem dX9_send_49 : decode cX9_send 49 = .ok (.invokevirtual 156, 3) := by decide +kernel
theorem dX9_send_52 : decode cX9_send 52 = .ok (.ireturn, 1) := by decide +kernel
theorem dX9_sell_0 : decode cX9_sell 0 = .ok (.aload_n 0, 1) := by decide +kernel
theorem dX9_sell_1 : decode cX9_sell 1 = .ok (.aload_n 0, 1) := by decide +kernel
theorem dX9_sell_2 : decode cX9_sell 2 = .ok (.iload_n 1, 1) := by decide +kernel
theorem dX9_sell_3 : decode cX9_sell 3 = .ok (.invokevirtual 150, 3) := by decide +kernel
theorem dX9_sell_6 : decode cX9_sell 6 = .ok (.ifCond .eq 7, 3) := by decide +kernel
theorem dX9_sell_9 : decode cX9_sell 9 = .ok (.iconst 0, 1) := by decide +kernel
theorem dX9_sell_10 : decode cX9_sell 10 = .ok (.goto 4, 3) := by decide +kernel
theorem dX9_sell_13 : decode cX9_sell 13 = .ok (.iconst 1, 1) := by decide +kernel
theorem dX9_sell_14 : decode cX9_sell 14 = .ok (.invokevirtual 111, 3) := by decide +kernel
theorem dX9_sell_17 : decode cX9_sell 17 = .ok (.ifCond .eq 5, 3) := by decide +kernel
theorem dX9_sell_20 : decode cX9_sell 20 = .ok (.iconst 0, 1) := by decide +kernel
theorem dX9_sell_21 : decode cX9_sell 21 = .ok (.ireturn, 1) := by decide +kernel
theorem dX9_sell_22 : decode cX9_sell 22 = .ok (.aload_n 0, 1) := by decide +kernel
theorem dX9_sell_23 : decode cX9_sell 23 = .ok (.invokevirtual 114, 3) := by decide +kernel
theorem dX9_sell_26 : decode cX9_sell 26 = .ok (.aload_n 0, 1) := by decide +kernel
theorem dX9_sell_27 : decode cX9_sell 27 = .ok (.iload_n 1, 1) := by decide +kernel
theorem dX9_sell_28 : decode cX9_sell 28 = .ok (.iconst 1, 1) := by decide +kernel
theorem dX9_sell_29 : decode cX9_sell 29 = .ok (.invokevirtual 142, 3) := by decide +kernel
theorem dX9_sell_32 : decode cX9_sell 32 = .ok (.aload_n 0, 1) := by decide +kernel
theorem dX9_sell_33 : decode cX9_sell 33 = .ok (.getfield 7, 3) := by decide +kernel
theorem dX9_sell_36 : decode cX9_sell 36 = .ok (.bipush 20, 2) := by decide +kernel
theorem dX9_sell_38 : decode cX9_sell 38 = .ok (.aload_n 0, 1) := by decide +kernel
theorem dX9_sell_39 : decode cX9_sell 39 = .ok (.iload_n 1, 1) := by decide +kernel
theorem dX9_sell_40 : decode cX9_sell 40 = .ok (.iconst 0, 1) := by decide +kernel
theorem dX9_sell_41 : decode cX9_sell 41 = .ok (.invokevirtual 142, 3) := by decide +kernel
theorem dX9_sell_44 : decode cX9_sell 44 = .ok (.iadd, 1) := by decide +kernel
theorem dX9_sell_45 : decode cX9_sell 45 = .ok (.iaload, 1) := by decide +kernel
theorem dX9_sell_46 : decode cX9_sell 46 = .ok (.idiv, 1) := by decide +kernel
theorem dX9_sell_47 : decode cX9_sell 47 = .ok (.istore_n 2, 1) := by decide +kernel
theorem dX9_sell_48 : decode cX9_sell 48 = .ok (.aload_n 0, 1) := by decide +kernel
theorem dX9_sell_49 : decode cX9_sell 49 = .ok (.getfield 7, 3) := by decide +kernel
theorem dX9_sell_52 : decode cX9_sell 52 = .ok (.bipush 60, 2) := by decide +kernel
theorem dX9_sell_54 : decode cX9_sell 54 = .ok (.dup2, 1) := by decide +kernel
theorem dX9_sell_55 : decode cX9_sell 55 = .ok (.iaload, 1) := by decide +kernel
theorem dX9_sell_56 : decode cX9_sell 56 = .ok (.iconst 1, 1) := by decide +kernel
theorem dX9_sell_57 : decode cX9_sell 57 = .ok (.isub, 1) := by decide +kernel
theorem dX9_sell_58 : decode cX9_sell 58 = .ok (.iastore, 1) := by decide +kernel
theorem dX9_sell_59 : decode cX9_sell 59 = .ok (.aload_n 0, 1) := by decide +kernel
theorem dX9_sell_60 : decode cX9_sell 60 = .ok (.getfield 7, 3) := by decide +kernel
theorem dX9_sell_63 : decode cX9_sell 63 = .ok (.bipush 62, 2) := by decide +kernel
theorem dX9_sell_65 : decode cX9_sell 65 = .ok (.dup2, 1) := by decide +kernel
theorem dX9_sell_66 : decode cX9_sell 66 = .ok (.iaload, 1) := by decide +kernel
theorem dX9_sell_67 : decode cX9_sell 67 = .ok (.iconst 1, 1) := by decide +kernel
theorem dX9_sell_68 : decode cX9_sell 68 = .ok (.iadd, 1) := by decide +kernel
theorem dX9_sell_69 : decode cX9_sell 69 = .ok (.iastore, 1) := by decide +kernel
theorem dX9_sell_70 : decode cX9_sell 70 = .ok (.iconst 4, 1) := by decide +kernel
theorem dX9_sell_71 : decode cX9_sell 71 = .ok (.iload_n 1, 1) := by decide +kernel
theorem dX9_sell_72 : decode cX9_sell 72 = .ok (.imul, 1) := by decide +kernel
theorem dX9_sell_73 : decode cX9_sell 73 = .ok (.istore_n 3, 1) := by decide +kernel
theorem dX9_sell_74 : decode cX9_sell 74 = .ok (.iload_n 3, 1) := by decide +kernel
theorem dX9_sell_75 : decode cX9_sell 75 = .ok (.iconst 4, 1) := by decide +kernel
theorem dX9_sell_76 : decode cX9_sell 76 = .ok (.aload_n 0, 1) := by decide +kernel
theorem dX9_sell_77 : decode cX9_sell 77 = .ok (.getfield 7, 3) := by decide +kernel
theorem dX9_sell_80 : decode cX9_sell 80 = .ok (.bipush 60, 2) := by decide +kernel
theorem dX9_sell_82 : decode cX9_sell 82 = .ok (.iaload, 1) := by decide +kernel
theorem dX9_sell_83 : decode cX9_sell 83 = .ok (.imul, 1) := by decide +kernel
theorem dX9_sell_84 : decode cX9_sell 84 = .ok (.if_icmp .ge 29, 3) := by decide +kernel
theorem dX9_sell_87 : decode cX9_sell 87 = .ok (.aload_n 0, 1) := by decide +kernel
theorem dX9_sell_88 : decode cX9_sell 88 = .ok (.getfield 7, 3) := by decide +kernel
theorem dX9_sell_91 : decode cX9_sell 91 = .ok (.bipush 28, 2) := by decide +kernel
theorem dX9_sell_93 : decode cX9_sell 93 = .ok (.iload_n 3, 1) := by decide +kernel
theorem dX9_sell_94 : decode cX9_sell 94 = .ok (.iadd, 1) := by decide +kernel
theorem dX9_sell_95 : decode cX9_sell 95 = .ok (.aload_n 0, 1) := by decide +kernel
theorem dX9_sell_96 : decode cX9_sell 96 = .ok (.getfield 7, 3) := by decide +kernel
theorem dX9_sell_99 : decode cX9_sell 99 = .ok (.bipush 28, 2) := by decide +kernel
theorem dX9_sell_101 : decode cX9_sell 101 = .ok (.iload_n 3, 1) := by decide +kernel
theorem dX9_sell_102 : decode cX9_sell 102 = .ok (.iadd, 1) := by decide +kernel
theorem dX9_sell_103 : decode cX9_sell 103 = .ok (.iconst 4, 1) := by decide +kernel
theorem dX9_sell_104 : decode cX9_sell 104 = .ok (.iadd, 1) := by decide +kernel
theorem dX9_sell_105 : decode cX9_sell 105 = .ok (.iaload, 1) := by decide +kernel
theorem dX9_sell_106 : decode cX9_sell 106 = .ok (.iastore, 1) := by decide +kernel
theorem dX9_sell_107 : decode cX9_sell 107 = .ok (.iinc 3 1, 3) := by decide +kernel
theorem dX9_sell_110 : decode cX9_sell 110 = .ok (.goto (-36), 3) := by decide +kernel
theorem dX9_sell_113 : decode cX9_sell 113 = .ok (.iload_n 2, 1) := by decide +kernel
theorem dX9_sell_114 : decode cX9_sell 114 = .ok (.ireturn, 1) := by decide +kernel
theorem dX9_append_0 : decode cX9_append 0 = .ok (.aload_n 0, 1) := by decide +kernel
theorem dX9_append_1 : decode cX9_append 1 = .ok (.iload_n 1, 1) := by decide +kernel
theorem dX9_append_2 : decode cX9_append 2 = .ok (.bipush 33, 2) := by decide +kernel
theorem dX9_append_4 : decode cX9_append 4 = .ok (.bipush 126, 2) := by decide +kernel
theorem dX9_append_6 : decode cX9_append 6 = .ok (.invokestatic 44, 3) := by decide +kernel
theorem dX9_append_9 : decode cX9_append 9 = .ok (.ifCond .ne 7, 3) := by decide +kernel
theorem dX9_append_12 : decode cX9_append 12 = .ok (.iconst 1, 1) := by decide +kernel
theorem dX9_append_13 : decode cX9_append 13 = .ok (.goto 17, 3) := by decide +kernel
theorem dX9_append_16 : decode cX9_append 16 = .ok (.aload_n 0, 1) := by decide +kernel
theorem dX9_append_17 : decode cX9_append 17 = .ok (.getfield 159, 3) := by decide +kernel
theorem dX9_append_20 : decode cX9_append 20 = .ok (.bipush 60, 2) := by decide +kernel
theorem dX9_append_22 : decode cX9_append 22 = .ok (.if_icmp .ne 7, 3) := by decide +kernel
theorem dX9_append_25 : decode cX9_append 25 = .ok (.iconst 2, 1) := by decide +kernel
theorem dX9_append_26 : decode cX9_append 26 = .ok (.goto 4, 3) := by decide +kernel
theorem dX9_append_29 : decode cX9_append 29 = .ok (.iconst 0, 1) := by decide +kernel
theorem dX9_append_30 : decode cX9_append 30 = .ok (.invokevirtual 111, 3) := by decide +kernel
theorem dX9_append_33 : decode cX9_append 33 = .ok (.ifCond .eq 5, 3) := by decide +kernel
theorem dX9_append_36 : decode cX9_append 36 = .ok (.iconst 0, 1) := by decide +kernel
theorem dX9_append_37 : decode cX9_append 37 = .ok (.ireturn, 1) := by decide +kernel
theorem dX9_append_38 : decode cX9_append 38 = .ok (.aload_n 0, 1) := by decide +kernel
theorem dX9_append_39 : decode cX9_append 39 = .ok (.getfield 19, 3) := by decide +kernel
theorem dX9_append_42 : decode cX9_append 42 = .ok (.aload_n 0, 1) := by decide +kernel
theorem dX9_append_43 : decode cX9_append 43 = .ok (.getfield 159, 3) := by decide +kernel
theorem dX9_append_46 : decode cX9_append 46 = .ok (.iload_n 1, 1) := by decide +kernel
theorem dX9_append_47 : decode cX9_append 47 = .ok (.iastore, 1) := by decide +kernel
theorem dX9_append_48 : decode cX9_append 48 = .ok (.aload_n 0, 1) := by decide +kernel
theorem dX9_append_49 : decode cX9_append 49 = .ok (.dup, 1) := by decide +kernel
theorem dX9_append_50 : decode cX9_append 50 = .ok (.getfield 159, 3) := by decide +kernel
theorem dX9_append_53 : decode cX9_append 53 = .ok (.iconst 1, 1) := by decide +kernel
theorem dX9_append_54 : decode cX9_append 54 = .ok (.iadd, 1) := by decide +kernel
theorem dX9_append_55 : decode cX9_append 55 = .ok (.putfield 159, 3) := by decide +kernel
theorem dX9_append_58 : decode cX9_append 58 = .ok (.aload_n 0, 1) := by decide +kernel
theorem dX9_append_59 : decode cX9_append 59 = .ok (.getfield 159, 3) := by decide +kernel
theorem dX9_append_62 : decode cX9_append 62 = .ok (.ireturn, 1) := by decide +kernel
theorem dX9_clearBuffer_0 : decode cX9_clearBuffer 0 = .ok (.aload_n 0, 1) := by decide +kernel
theorem dX9_clearBuffer_1 : decode cX9_clearBuffer 1 = .ok (.iconst 0, 1) := by decide +kernel
theorem dX9_clearBuffer_2 : decode cX9_clearBuffer 2 = .ok (.putfield 40, 3) := by decide +kernel
theorem dX9_clearBuffer_5 : decode cX9_clearBuffer 5 = .ok (.aload_n 0, 1) := by decide +kernel
theorem dX9_clearBuffer_6 : decode cX9_clearBuffer 6 = .ok (.getfield 159, 3) := by decide +kernel
theorem dX9_clearBuffer_9 : decode cX9_clearBuffer 9 = .ok (.istore_n 1, 1) := by decide +kernel
theorem dX9_clearBuffer_10 : decode cX9_clearBuffer 10 = .ok (.aload_n 0, 1) := by decide +kernel
theorem dX9_clearBuffer_11 : decode cX9_clearBuffer 11 = .ok (.iconst 0, 1) := by decide +kernel
theorem dX9_clearBuffer_12 : decode cX9_clearBuffer 12 = .ok (.putfield 159, 3) := by decide +kernel
theorem dX9_clearBuffer_15 : decode cX9_clearBuffer 15 = .ok (.iload_n 1, 1) := by decide +kernel
theorem dX9_clearBuffer_16 : decode cX9_clearBuffer 16 = .ok (.ireturn, 1) := by decide +kernel
theorem dX9_next_0 : decode cX9_next 0 = .ok (.aload_n 0, 1) := by decide +kernel
theorem dX9_next_1 : decode cX9_next 1 = .ok (.getfield 162, 3) := by decide +kernel
theorem dX9_next_4 : decode cX9_next 4 = .ok (.aload_n 0, 1) := by decide +kernel
theorem dX9_next_5 : decode cX9_next 5 = .ok (.getfield 159, 3) := by decide +kernel
