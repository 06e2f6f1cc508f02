theorem dX0_init_0 : decode cX0_init 0 = .ok (.aload_n 0, 1) := by decide +kernel
theorem dX0_init_1 : decode cX0_init 1 = .ok (.invokespecial 3, 3) := by decide +kernel
theorem dX0_init_4 : decode cX0_init 4 = .ok (.aload_n 0, 1) := by decide +kernel
theorem dX0_init_5 : decode cX0_init 5 = .ok (.bipush 8, 2) := by decide +kernel
theorem dX0_init_7 : decode cX0_init 7 = .ok (.newarray .int, 2) := by decide +kernel
theorem dX0_init_9 : decode cX0_init 9 = .ok (.putfield 9, 3) := by decide +kernel
theorem dX0_init_12 : decode cX0_init 12 = .ok (.aload_n 0, 1) := by decide +kernel
theorem dX0_init_13 : decode cX0_init 13 = .ok (.bipush 8, 2) := by decide +kernel
theorem dX0_init_15 : decode cX0_init 15 = .ok (.newarray .int, 2) := by decide +kernel
theorem dX0_init_17 : decode cX0_init 17 = .ok (.putfield 15, 3) := by decide +kernel
theorem dX0_init_20 : decode cX0_init 20 = .ok (.aload_n 0, 1) := by decide +kernel
theorem dX0_init_21 : decode cX0_init 21 = .ok (.bipush 8, 2) := by decide +kernel
theorem dX0_init_23 : decode cX0_init 23 = .ok (.newarray .int, 2) := by decide +kernel
theorem dX0_init_25 : decode cX0_init 25 = .ok (.putfield 18, 3) := by decide +kernel
theorem dX0_init_28 : decode cX0_init 28 = .ok (.aload_n 0, 1) := by decide +kernel
theorem dX0_init_29 : decode cX0_init 29 = .ok (.bipush 8, 2) := by decide +kernel
theorem dX0_init_31 : decode cX0_init 31 = .ok (.newarray .int, 2) := by decide +kernel
theorem dX0_init_33 : decode cX0_init 33 = .ok (.putfield 21, 3) := by decide +kernel
theorem dX0_init_36 : decode cX0_init 36 = .ok (.aload_n 0, 1) := by decide +kernel
theorem dX0_init_37 : decode cX0_init 37 = .ok (.iconst 0, 1) := by decide +kernel
theorem dX0_init_38 : decode cX0_init 38 = .ok (.putfield 24, 3) := by decide +kernel
theorem dX0_init_41 : decode cX0_init 41 = .ok (.aload_n 0, 1) := by decide +kernel
theorem dX0_init_42 : decode cX0_init 42 = .ok (.iconst 0, 1) := by decide +kernel
theorem dX0_init_43 : decode cX0_init 43 = .ok (.putfield 28, 3) := by decide +kernel
theorem dX0_init_46 : decode cX0_init 46 = .ok (.aload_n 0, 1) := by decide +kernel
theorem dX0_init_47 : decode cX0_init 47 = .ok (.iconst 0, 1) := by decide +kernel
theorem dX0_init_48 : decode cX0_init 48 = .ok (.putfield 31, 3) := by decide +kernel
theorem dX0_init_51 : decode cX0_init 51 = .ok (.return_, 1) := by decide +kernel
theorem dX0_copy_0 : decode cX0_copy 0 = .ok (.aload_n 1, 1) := by decide +kernel
theorem dX0_copy_1 : decode cX0_copy 1 = .ok (.getfield 9, 3) := by decide +kernel
theorem dX0_copy_4 : decode cX0_copy 4 = .ok (.aload_n 0, 1) := by decide +kernel
theorem dX0_copy_5 : decode cX0_copy 5 = .ok (.getfield 9, 3) := by decide +kernel
theorem dX0_copy_8 : decode cX0_copy 8 = .ok (.invokestatic 34, 3) := by decide +kernel
theorem dX0_copy_11 : decode cX0_copy 11 = .ok (.aload_n 1, 1) := by decide +kernel
theorem dX0_copy_12 : decode cX0_copy 12 = .ok (.getfield 15, 3) := by decide +kernel
theorem dX0_copy_15 : decode cX0_copy 15 = .ok (.aload_n 0, 1) := by decide +kernel
theorem dX0_copy_16 : decode cX0_copy 16 = .ok (.getfield 15, 3) := by decide +kernel
theorem dX0_copy_19 : decode cX0_copy 19 = .ok (.invokestatic 34, 3) := by decide +kernel
theorem dX0_copy_22 : decode cX0_copy 22 = .ok (.aload_n 1, 1) := by decide +kernel
theorem dX0_copy_23 : decode cX0_copy 23 = .ok (.getfield 18, 3) := by decide +kernel
theorem dX0_copy_26 : decode cX0_copy 26 = .ok (.aload_n 0, 1) := by decide +kernel
theorem dX0_copy_27 : decode cX0_copy 27 = .ok (.getfield 18, 3) := by decide +kernel
theorem dX0_copy_30 : decode cX0_copy 30 = .ok (.invokestatic 34, 3) := by decide +kernel
theorem dX0_copy_33 : decode cX0_copy 33 = .ok (.aload_n 1, 1) := by decide +kernel
theorem dX0_copy_34 : decode cX0_copy 34 = .ok (.getfield 21, 3) := by decide +kernel
theorem dX0_copy_37 : decode cX0_copy 37 = .ok (.aload_n 0, 1) := by decide +kernel
theorem dX0_copy_38 : decode cX0_copy 38 = .ok (.getfield 21, 3) := by decide +kernel
theorem dX0_copy_41 : decode cX0_copy 41 = .ok (.invokestatic 34, 3) := by decide +kernel
theorem dX0_copy_44 : decode cX0_copy 44 = .ok (.aload_n 0, 1) := by decide +kernel
theorem dX0_copy_45 : decode cX0_copy 45 = .ok (.aload_n 1, 1) := by decide +kernel
theorem dX0_copy_46 : decode cX0_copy 46 = .ok (.getfield 24, 3) := by decide +kernel
theorem dX0_copy_49 : decode cX0_copy 49 = .ok (.putfield 24, 3) := by decide +kernel
theorem dX0_copy_52 : decode cX0_copy 52 = .ok (.aload_n 0, 1) := by decide +kernel
theorem dX0_copy_53 : decode cX0_copy 53 = .ok (.aload_n 1, 1) := by decide +kernel
theorem dX0_copy_54 : decode cX0_copy 54 = .ok (.getfield 28, 3) := by decide +kernel
theorem dX0_copy_57 : decode cX0_copy 57 = .ok (.putfield 28, 3) := by decide +kernel
theorem dX0_copy_60 : decode cX0_copy 60 = .ok (.aload_n 0, 1) := by decide +kernel
theorem dX0_copy_61 : decode cX0_copy 61 = .ok (.aload_n 1, 1) := by decide +kernel
theorem dX0_copy_62 : decode cX0_copy 62 = .ok (.getfield 31, 3) := by decide +kernel
theorem dX0_copy_65 : decode cX0_copy 65 = .ok (.putfield 31, 3) := by decide +kernel
theorem dX0_copy_68 : decode cX0_copy 68 = .ok (.return_, 1) := by decide +kernel
theorem dX0_has_0 : decode cX0_has 0 = .ok (.iload_n 1, 1) := by decide +kernel
theorem dX0_has_1 : decode cX0_has 1 = .ok (.ifCond .lt 15, 3) := by decide +kernel
theorem dX0_has_4 : decode cX0_has 4 = .ok (.iload_n 1, 1) := by decide +kernel
theorem dX0_has_5 : decode cX0_has 5 = .ok (.aload_n 0, 1) := by decide +kernel
theorem dX0_has_6 : decode cX0_has 6 = .ok (.getfield 24, 3) := by decide +kernel
theorem dX0_has_9 : decode cX0_has 9 = .ok (.if_icmp .ge 7, 3) := by decide +kernel
theorem dX0_has_12 : decode cX0_has 12 = .ok (.iconst 1, 1) := by decide +kernel
theorem dX0_has_13 : decode cX0_has 13 = .ok (.goto 4, 3) := by decide +kernel
theorem dX0_has_16 : decode cX0_has 16 = .ok (.iconst 0, 1) := by decide +kernel
theorem dX0_has_17 : decode cX0_has 17 = .ok (.ireturn, 1) := by decide +kernel
theorem dX0_come_0 : decode cX0_come 0 = .ok (.aload_n 0, 1) := by decide +kernel
theorem dX0_come_1 : decode cX0_come 1 = .ok (.getfield 24, 3) := by decide +kernel
theorem dX0_come_4 : decode cX0_come 4 = .ok (.bipush 8, 2) := by decide +kernel
theorem dX0_come_6 : decode cX0_come 6 = .ok (.if_icmp .lt 4, 3) := by decide +kernel
theorem dX0_come_9 : decode cX0_come 9 = .ok (.return_, 1) := by decide +kernel
theorem dX0_come_10 : decode cX0_come 10 = .ok (.aload_n 0, 1) := by decide +kernel
theorem dX0_come_11 : decode cX0_come 11 = .ok (.getfield 9, 3) := by decide +kernel
theorem dX0_come_14 : decode cX0_come 14 = .ok (.aload_n 0, 1) := by decide +kernel
theorem dX0_come_15 : decode cX0_come 15 = .ok (.getfield 24, 3) := by decide +kernel
theorem dX0_come_18 : decode cX0_come 18 = .ok (.iload_n 1, 1) := by decide +kernel
theorem dX0_come_19 : decode cX0_come 19 = .ok (.invokestatic 38, 3) := by decide +kernel
theorem dX0_come_22 : decode cX0_come 22 = .ok (.aload_n 0, 1) := by decide +kernel
theorem dX0_come_23 : decode cX0_come 23 = .ok (.getfield 15, 3) := by decide +kernel
theorem dX0_come_26 : decode cX0_come 26 = .ok (.aload_n 0, 1) := by decide +kernel
theorem dX0_come_27 : decode cX0_come 27 = .ok (.getfield 24, 3) := by decide +kernel
theorem dX0_come_30 : decode cX0_come 30 = .ok (.iload_n 2, 1) := by decide +kernel
theorem dX0_come_31 : decode cX0_come 31 = .ok (.invokestatic 38, 3) := by decide +kernel
theorem dX0_come_34 : decode cX0_come 34 = .ok (.aload_n 0, 1) := by decide +kernel
theorem dX0_come_35 : decode cX0_come 35 = .ok (.getfield 18, 3) := by decide +kernel
theorem dX0_come_38 : decode cX0_come 38 = .ok (.aload_n 0, 1) := by decide +kernel
theorem dX0_come_39 : decode cX0_come 39 = .ok (.getfield 24, 3) := by decide +kernel
theorem dX0_come_42 : decode cX0_come 42 = .ok (.iconst 0, 1) := by decide +kernel
theorem dX0_come_43 : decode cX0_come 43 = .ok (.invokestatic 38, 3) := by decide +kernel
theorem dX0_come_46 : decode cX0_come 46 = .ok (.aload_n 0, 1) := by decide +kernel
theorem dX0_come_47 : decode cX0_come 47 = .ok (.getfield 21, 3) := by decide +kernel
theorem dX0_come_50 : decode cX0_come 50 = .ok (.aload_n 0, 1) := by decide +kernel
theorem dX0_come_51 : decode cX0_come 51 = .ok (.getfield 24, 3) := by decide +kernel
theorem dX0_come_54 : decode cX0_come 54 = .ok (.iconst 0, 1) := by decide +kernel
theorem dX0_come_55 : decode cX0_come 55 = .ok (.invokestatic 38, 3) := by decide +kernel
theorem dX0_come_58 : decode cX0_come 58 = .ok (.aload_n 0, 1) := by decide +kernel
theorem dX0_come_59 : decode cX0_come 59 = .ok (.dup, 1) := by decide +kernel
theorem dX0_come_60 : decode cX0_come 60 = .ok (.getfield 24, 3) := by decide +kernel
theorem dX0_come_63 : decode cX0_come 63 = .ok (.iconst 1, 1) := by decide +kernel
theorem dX0_come_64 : decode cX0_come 64 = .ok (.iadd, 1) := by decide +kernel
theorem dX0_come_65 : decode cX0_come 65 = .ok (.putfield 24, 3) := by decide +kernel
theorem dX0_come_68 : decode cX0_come 68 = .ok (.return_, 1) := by decide +kernel
theorem dX0_move_0 : decode cX0_move 0 = .ok (.aload_n 0, 1) := by decide +kernel
theorem dX0_move_1 : decode cX0_move 1 = .ok (.getfield 9, 3) := by decide +kernel
theorem dX0_move_4 : decode cX0_move 4 = .ok (.iload_n 1, 1) := by decide +kernel
theorem dX0_move_5 : decode cX0_move 5 = .ok (.iload_n 2, 1) := by decide +kernel
theorem dX0_move_6 : decode cX0_move 6 = .ok (.invokestatic 38, 3) := by decide +kernel
theorem dX0_move_9 : decode cX0_move 9 = .ok (.aload_n 0, 1) := by decide +kernel
theorem dX0_move_10 : decode cX0_move 10 = .ok (.getfield 15, 3) := by decide +kernel
theorem dX0_move_13 : decode cX0_move 13 = .ok (.iload_n 1, 1) := by decide +kernel
theorem dX0_move_14 : decode cX0_move 14 = .ok (.iload_n 3, 1) := by decide +kernel
theorem dX0_move_15 : decode cX0_move 15 = .ok (.invokestatic 38, 3) := by decide +kernel
theorem dX0_move_18 : decode cX0_move 18 = .ok (.aload_n 0, 1) := by decide +kernel
theorem dX0_move_19 : decode cX0_move 19 = .ok (.getfield 18, 3) := by decide +kernel
theorem dX0_move_22 : decode cX0_move 22 = .ok (.iload_n 1, 1) := by decide +kernel
theorem dX0_move_23 : decode cX0_move 23 = .ok (.aload_n 0, 1) := by decide +kernel
theorem dX0_move_24 : decode cX0_move 24 = .ok (.getfield 18, 3) := by decide +kernel
theorem dX0_move_27 : decode cX0_move 27 = .ok (.iload_n 1, 1) := by decide +kernel
theorem dX0_move_28 : decode cX0_move 28 = .ok (.invokestatic 42, 3) := by decide +kernel
theorem dX0_move_31 : decode cX0_move 31 = .ok (.iload 4, 2) := by decide +kernel
theorem dX0_move_33 : decode cX0_move 33 = .ok (.iadd, 1) := by decide +kernel
theorem dX0_move_34 : decode cX0_move 34 = .ok (.invokestatic 38, 3) := by decide +kernel
theorem dX0_move_37 : decode cX0_move 37 = .ok (.aload_n 0, 1) := by decide +kernel
theorem dX0_move_38 : decode cX0_move 38 = .ok (.getfield 21, 3) := by decide +kernel
theorem dX0_move_41 : decode cX0_move 41 = .ok (.iload_n 1, 1) := by decide +kernel
theorem dX0_move_42 : decode cX0_move 42 = .ok (.aload_n 0, 1) := by decide +kernel
theorem dX0_move_43 : decode cX0_move 43 = .ok (.getfield 21, 3) := by decide +kernel
theorem dX0_move_46 : decode cX0_move 46 = .ok (.iload_n 1, 1) := by decide +kernel
theorem dX0_move_47 : decode cX0_move 47 = .ok (.invokestatic 42, 3) := by decide +kernel
theorem dX0_move_50 : decode cX0_move 50 = .ok (.iconst 1, 1) := by decide +kernel
theorem dX0_move_51 : decode cX0_move 51 = .ok (.iadd, 1) := by decide +kernel
theorem dX0_move_52 : decode cX0_move 52 = .ok (.invokestatic 38, 3) := by decide +kernel
theorem dX0_move_55 : decode cX0_move 55 = .ok (.aload_n 0, 1) := by decide +kernel
theorem dX0_move_56 : decode cX0_move 56 = .ok (.dup, 1) := by decide +kernel
theorem dX0_move_57 : decode cX0_move 57 = .ok (.getfield 31, 3) := by decide +kernel
theorem dX0_move_60 : decode cX0_move 60 = .ok (.iload 4, 2) := by decide +kernel
theorem dX0_move_62 : decode cX0_move 62 = .ok (.iadd, 1) := by decide +kernel
theorem dX0_move_63 : decode cX0_move 63 = .ok (.putfield 31, 3) := by decide +kernel
theorem dX0_move_66 : decode cX0_move 66 = .ok (.return_, 1) := by decide +kernel
theorem dX0_go_0 : decode cX0_go 0 = .ok (.aload_n 0, 1) := by decide +kernel
theorem dX0_go_1 : decode cX0_go 1 = .ok (.aload_n 0, 1) := by decide +kernel
theorem dX0_go_2 : decode cX0_go 2 = .ok (.getfield 9, 3) := by decide +kernel
theorem dX0_go_5 : decode cX0_go 5 = .ok (.iload_n 1, 1) := by decide +kernel
theorem dX0_go_6 : decode cX0_go 6 = .ok (.invokevirtual 46, 3) := by decide +kernel
theorem dX0_go_9 : decode cX0_go 9 = .ok (.aload_n 0, 1) := by decide +kernel
theorem dX0_go_10 : decode cX0_go 10 = .ok (.aload_n 0, 1) := by decide +kernel
theorem dX0_go_11 : decode cX0_go 11 = .ok (.getfield 15, 3) := by decide +kernel
theorem dX0_go_14 : decode cX0_go 14 = .ok (.iload_n 1, 1) := by decide +kernel
theorem dX0_go_15 : decode cX0_go 15 = .ok (.invokevirtual 46, 3) := by decide +kernel
theorem dX0_go_18 : decode cX0_go 18 = .ok (.aload_n 0, 1) := by decide +kernel
theorem dX0_go_19 : decode cX0_go 19 = .ok (.aload_n 0, 1) := by decide +kernel
theorem dX0_go_20 : decode cX0_go 20 = .ok (.getfield 18, 3) := by decide +kernel
theorem dX0_go_23 : decode cX0_go 23 = .ok (.iload_n 1, 1) := by decide +kernel
theorem dX0_go_24 : decode cX0_go 24 = .ok (.invokevirtual 46, 3) := by decide +kernel
theorem dX0_go_27 : decode cX0_go 27 = .ok (.aload_n 0, 1) := by decide +kernel
theorem dX0_go_28 : decode cX0_go 28 = .ok (.aload_n 0, 1) := by decide +kernel
theorem dX0_go_29 : decode cX0_go 29 = .ok (.getfield 21, 3) := by decide +kernel
theorem dX0_go_32 : decode cX0_go 32 = .ok (.iload_n 1, 1) := by decide +kernel
theorem dX0_go_33 : decode cX0_go 33 = .ok (.invokevirtual 46, 3) := by decide +kernel
theorem dX0_go_36 : decode cX0_go 36 = .ok (.aload_n 0, 1) := by decide +kernel
theorem dX0_go_37 : decode cX0_go 37 = .ok (.dup, 1) := by decide +kernel
theorem dX0_go_38 : decode cX0_go 38 = .ok (.getfield 24, 3) := by decide +kernel
theorem dX0_go_41 : decode cX0_go 41 = .ok (.iconst 1, 1) := by decide +kernel
theorem dX0_go_42 : decode cX0_go 42 = .ok (.isub, 1) := by decide +kernel
theorem dX0_go_43 : decode cX0_go 43 = .ok (.putfield 24, 3) := by decide +kernel
theorem dX0_go_46 : decode cX0_go 46 = .ok (.aload_n 0, 1) := by decide +kernel
theorem dX0_go_47 : decode cX0_go 47 = .ok (.dup, 1) := by decide +kernel
theorem dX0_go_48 : decode cX0_go 48 = .ok (.getfield 28, 3) := by decide +kernel
theorem dX0_go_51 : decode cX0_go 51 = .ok (.iconst 1, 1) := by decide +kernel
theorem dX0_go_52 : decode cX0_go 52 = .ok (.iadd, 1) := by decide +kernel
theorem dX0_go_53 : decode cX0_go 53 = .ok (.putfield 28, 3) := by decide +kernel
theorem dX0_go_56 : decode cX0_go 56 = .ok (.return_, 1) := by decide +kernel
theorem dX0_closeUp_0 : decode cX0_closeUp 0 = .ok (.iload_n 2, 1) := by decide +kernel
theorem dX0_closeUp_1 : decode cX0_closeUp 1 = .ok (.istore_n 3, 1) := by decide +kernel
theorem dX0_closeUp_2 : decode cX0_closeUp 2 = .ok (.iload_n 3, 1) := by decide +kernel
theorem dX0_closeUp_3 : decode cX0_closeUp 3 = .ok (.aload_n 0, 1) := by decide +kernel
theorem dX0_closeUp_4 : decode cX0_closeUp 4 = .ok (.getfield 24, 3) := by decide +kernel
theorem dX0_closeUp_7 : decode cX0_closeUp 7 = .ok (.iconst 1, 1) := by decide +kernel
theorem dX0_closeUp_8 : decode cX0_closeUp 8 = .ok (.isub, 1) := by decide +kernel
theorem dX0_closeUp_9 : decode cX0_closeUp 9 = .ok (.if_icmp .ge 21, 3) := by decide +kernel
theorem dX0_closeUp_12 : decode cX0_closeUp 12 = .ok (.aload_n 1, 1) := by decide +kernel
theorem dX0_closeUp_13 : decode cX0_closeUp 13 = .ok (.iload_n 3, 1) := by decide +kernel
theorem dX0_closeUp_14 : decode cX0_closeUp 14 = .ok (.aload_n 1, 1) := by decide +kernel
theorem dX0_closeUp_15 : decode cX0_closeUp 15 = .ok (.iload_n 3, 1) := by decide +kernel
theorem dX0_closeUp_16 : decode cX0_closeUp 16 = .ok (.iconst 1, 1) := by decide +kernel
theorem dX0_closeUp_17 : decode cX0_closeUp 17 = .ok (.iadd, 1) := by decide +kernel
theorem dX0_closeUp_18 : decode cX0_closeUp 18 = .ok (.invokestatic 42, 3) := by decide +kernel
theorem dX0_closeUp_21 : decode cX0_closeUp 21 = .ok (.invokestatic 38, 3) := by decide +kernel
theorem dX0_closeUp_24 : decode cX0_closeUp 24 = .ok (.iinc 3 1, 3) := by decide +kernel
theorem dX0_closeUp_27 : decode cX0_closeUp 27 = .ok (.goto (-25), 3) := by decide +kernel
theorem dX0_closeUp_30 : decode cX0_closeUp 30 = .ok (.return_, 1) := by decide +kernel
theorem dX0_lengthOfAll_0 : decode cX0_lengthOfAll 0 = .ok (.iconst 0, 1) := by decide +kernel
theorem dX0_lengthOfAll_1 : decode cX0_lengthOfAll 1 = .ok (.istore_n 1, 1) := by decide +kernel
theorem dX0_lengthOfAll_2 : decode cX0_lengthOfAll 2 = .ok (.iconst 0, 1) := by decide +kernel
theorem dX0_lengthOfAll_3 : decode cX0_lengthOfAll 3 = .ok (.istore_n 2, 1) := by decide +kernel
theorem dX0_lengthOfAll_4 : decode cX0_lengthOfAll 4 = .ok (.iload_n 2, 1) := by decide +kernel
theorem dX0_lengthOfAll_5 : decode cX0_lengthOfAll 5 = .ok (.aload_n 0, 1) := by decide +kernel
theorem dX0_lengthOfAll_6 : decode cX0_lengthOfAll 6 = .ok (.getfield 24, 3) := by decide +kernel
theorem dX0_lengthOfAll_9 : decode cX0_lengthOfAll 9 = .ok (.if_icmp .ge 20, 3) := by decide +kernel
theorem dX0_lengthOfAll_12 : decode cX0_lengthOfAll 12 = .ok (.iload_n 1, 1) := by decide +kernel
theorem dX0_lengthOfAll_13 : decode cX0_lengthOfAll 13 = .ok (.aload_n 0, 1) := by decide +kernel
theorem dX0_lengthOfAll_14 : decode cX0_lengthOfAll 14 = .ok (.getfield 15, 3) := by decide +kernel
theorem dX0_lengthOfAll_17 : decode cX0_lengthOfAll 17 = .ok (.iload_n 2, 1) := by decide +kernel
theorem dX0_lengthOfAll_18 : decode cX0_lengthOfAll 18 = .ok (.invokestatic 42, 3) := by decide +kernel
theorem dX0_lengthOfAll_21 : decode cX0_lengthOfAll 21 = .ok (.iadd, 1) := by decide +kernel
theorem dX0_lengthOfAll_22 : decode cX0_lengthOfAll 22 = .ok (.istore_n 1, 1) := by decide +kernel
theorem dX0_lengthOfAll_23 : decode cX0_lengthOfAll 23 = .ok (.iinc 2 1, 3) := by decide +kernel
theorem dX0_lengthOfAll_26 : decode cX0_lengthOfAll 26 = .ok (.goto (-22), 3) := by decide +kernel
theorem dX0_lengthOfAll_29 : decode cX0_lengthOfAll 29 = .ok (.iload_n 1, 1) := by decide +kernel
theorem dX0_lengthOfAll_30 : decode cX0_lengthOfAll 30 = .ok (.ireturn, 1) := by decide +kernel
theorem dX1_init_0 : decode cX1_init 0 = .ok (.aload_n 0, 1) := by decide +kernel
theorem dX1_init_1 : decode cX1_init 1 = .ok (.invokespecial 3, 3) := by decide +kernel
theorem dX1_init_4 : decode cX1_init 4 = .ok (.aload_n 0, 1) := by decide +kernel
theorem dX1_init_5 : decode cX1_init 5 = .ok (.bipush 6, 2) := by decide +kernel
theorem dX1_init_7 : decode cX1_init 7 = .ok (.anewarray 9, 3) := by decide +kernel
theorem dX1_init_10 : decode cX1_init 10 = .ok (.putfield 11, 3) := by decide +kernel
theorem dX1_init_13 : decode cX1_init 13 = .ok (.iconst 0, 1) := by decide +kernel
theorem dX1_init_14 : decode cX1_init 14 = .ok (.istore_n 1, 1) := by decide +kernel
theorem dX1_init_15 : decode cX1_init 15 = .ok (.iload_n 1, 1) := by decide +kernel
theorem dX1_init_16 : decode cX1_init 16 = .ok (.aload_n 0, 1) := by decide +kernel
theorem dX1_init_17 : decode cX1_init 17 = .ok (.getfield 11, 3) := by decide +kernel
theorem dX1_init_20 : decode cX1_init 20 = .ok (.arraylength, 1) := by decide +kernel
theorem dX1_init_21 : decode cX1_init 21 = .ok (.if_icmp .ge 22, 3) := by decide +kernel
theorem dX1_init_24 : decode cX1_init 24 = .ok (.aload_n 0, 1) := by decide +kernel
theorem dX1_init_25 : decode cX1_init 25 = .ok (.getfield 11, 3) := by decide +kernel
theorem dX1_init_28 : decode cX1_init 28 = .ok (.iload_n 1, 1) := by decide +kernel
theorem dX1_init_29 : decode cX1_init 29 = .ok (.new 9, 3) := by decide +kernel
theorem dX1_init_32 : decode cX1_init 32 = .ok (.dup, 1) := by decide +kernel
theorem dX1_init_33 : decode cX1_init 33 = .ok (.invokespecial 17, 3) := by decide +kernel
theorem dX1_init_36 : decode cX1_init 36 = .ok (.aastore, 1) := by decide +kernel
theorem dX1_init_37 : decode cX1_init 37 = .ok (.iinc 1 1, 3) := by decide +kernel
theorem dX1_init_40 : decode cX1_init 40 = .ok (.goto (-25), 3) := by decide +kernel
theorem dX1_init_43 : decode cX1_init 43 = .ok (.aload_n 0, 1) := by decide +kernel
theorem dX1_init_44 : decode cX1_init 44 = .ok (.iconst 0, 1) := by decide +kernel
theorem dX1_init_45 : decode cX1_init 45 = .ok (.putfield 18, 3) := by decide +kernel
theorem dX1_init_48 : decode cX1_init 48 = .ok (.return_, 1) := by decide +kernel
theorem dX1_push_0 : decode cX1_push 0 = .ok (.aload_n 0, 1) := by decide +kernel
theorem dX1_push_1 : decode cX1_push 1 = .ok (.getfield 18, 3) := by decide +kernel
theorem dX1_push_4 : decode cX1_push 4 = .ok (.aload_n 0, 1) := by decide +kernel
theorem dX1_push_5 : decode cX1_push 5 = .ok (.getfield 11, 3) := by decide +kernel
theorem dX1_push_8 : decode cX1_push 8 = .ok (.arraylength, 1) := by decide +kernel
theorem dX1_push_9 : decode cX1_push 9 = .ok (.if_icmp .lt 7, 3) := by decide +kernel
theorem dX1_push_12 : decode cX1_push 12 = .ok (.aload_n 0, 1) := by decide +kernel
theorem dX1_push_13 : decode cX1_push 13 = .ok (.invokevirtual 22, 3) := by decide +kernel
theorem dX1_push_16 : decode cX1_push 16 = .ok (.aload_n 0, 1) := by decide +kernel
theorem dX1_push_17 : decode cX1_push 17 = .ok (.getfield 18, 3) := by decide +kernel
theorem dX1_push_20 : decode cX1_push 20 = .ok (.ifCond .lt 50, 3) := by decide +kernel
theorem dX1_push_23 : decode cX1_push 23 = .ok (.aload_n 0, 1) := by decide +kernel
theorem dX1_push_24 : decode cX1_push 24 = .ok (.getfield 18, 3) := by decide +kernel
theorem dX1_push_27 : decode cX1_push 27 = .ok (.aload_n 0, 1) := by decide +kernel
theorem dX1_push_28 : decode cX1_push 28 = .ok (.getfield 11, 3) := by decide +kernel
theorem dX1_push_31 : decode cX1_push 31 = .ok (.arraylength, 1) := by decide +kernel
theorem dX1_push_32 : decode cX1_push 32 = .ok (.if_icmp .ge 38, 3) := by decide +kernel
theorem dX1_push_35 : decode cX1_push 35 = .ok (.aload_n 0, 1) := by decide +kernel
theorem dX1_push_36 : decode cX1_push 36 = .ok (.getfield 11, 3) := by decide +kernel
theorem dX1_push_39 : decode cX1_push 39 = .ok (.aload_n 0, 1) := by decide +kernel
theorem dX1_push_40 : decode cX1_push 40 = .ok (.getfield 18, 3) := by decide +kernel
theorem dX1_push_43 : decode cX1_push 43 = .ok (.aaload, 1) := by decide +kernel
theorem dX1_push_44 : decode cX1_push 44 = .ok (.ifnull 26, 3) := by decide +kernel
theorem dX1_push_47 : decode cX1_push 47 = .ok (.aload_n 0, 1) := by decide +kernel
theorem dX1_push_48 : decode cX1_push 48 = .ok (.getfield 11, 3) := by decide +kernel
theorem dX1_push_51 : decode cX1_push 51 = .ok (.aload_n 0, 1) := by decide +kernel
theorem dX1_push_52 : decode cX1_push 52 = .ok (.getfield 18, 3) := by decide +kernel
theorem dX1_push_55 : decode cX1_push 55 = .ok (.aaload, 1) := by decide +kernel
theorem dX1_push_56 : decode cX1_push 56 = .ok (.aload_n 1, 1) := by decide +kernel
theorem dX1_push_57 : decode cX1_push 57 = .ok (.invokevirtual 25, 3) := by decide +kernel
theorem dX1_push_60 : decode cX1_push 60 = .ok (.aload_n 0, 1) := by decide +kernel
theorem dX1_push_61 : decode cX1_push 61 = .ok (.dup, 1) := by decide +kernel
theorem dX1_push_62 : decode cX1_push 62 = .ok (.getfield 18, 3) := by decide +kernel
theorem dX1_push_65 : decode cX1_push 65 = .ok (.iconst 1, 1) := by decide +kernel
theorem dX1_push_66 : decode cX1_push 66 = .ok (.iadd, 1) := by decide +kernel
theorem dX1_push_67 : decode cX1_push 67 = .ok (.putfield 18, 3) := by decide +kernel
theorem dX1_push_70 : decode cX1_push 70 = .ok (.return_, 1) := by decide +kernel
theorem dX1_dropOldest_0 : decode cX1_dropOldest 0 = .ok (.aload_n 0, 1) := by decide +kernel
theorem dX1_dropOldest_1 : decode cX1_dropOldest 1 = .ok (.getfield 11, 3) := by decide +kernel
theorem dX1_dropOldest_4 : decode cX1_dropOldest 4 = .ok (.arraylength, 1) := by decide +kernel
theorem dX1_dropOldest_5 : decode cX1_dropOldest 5 = .ok (.ifCond .ne 4, 3) := by decide +kernel
theorem dX1_dropOldest_8 : decode cX1_dropOldest 8 = .ok (.return_, 1) := by decide +kernel
theorem dX1_dropOldest_9 : decode cX1_dropOldest 9 = .ok (.aload_n 0, 1) := by decide +kernel
theorem dX1_dropOldest_10 : decode cX1_dropOldest 10 = .ok (.getfield 11, 3) := by decide +kernel
theorem dX1_dropOldest_13 : decode cX1_dropOldest 13 = .ok (.iconst 0, 1) := by decide +kernel
theorem dX1_dropOldest_14 : decode cX1_dropOldest 14 = .ok (.aaload, 1) := by decide +kernel
theorem dX1_dropOldest_15 : decode cX1_dropOldest 15 = .ok (.astore_n 1, 1) := by decide +kernel
theorem dX1_dropOldest_16 : decode cX1_dropOldest 16 = .ok (.iconst 0, 1) := by decide +kernel
theorem dX1_dropOldest_17 : decode cX1_dropOldest 17 = .ok (.istore_n 2, 1) := by decide +kernel
theorem dX1_dropOldest_18 : decode cX1_dropOldest 18 = .ok (.iload_n 2, 1) := by decide +kernel
theorem dX1_dropOldest_19 : decode cX1_dropOldest 19 = .ok (.aload_n 0, 1) := by decide +kernel
theorem dX1_dropOldest_20 : decode cX1_dropOldest 20 = .ok (.getfield 11, 3) := by decide +kernel
theorem dX1_dropOldest_23 : decode cX1_dropOldest 23 = .ok (.arraylength, 1) := by decide +kernel
theorem dX1_dropOldest_24 : decode cX1_dropOldest 24 = .ok (.iconst 1, 1) := by decide +kernel
theorem dX1_dropOldest_25 : decode cX1_dropOldest 25 = .ok (.isub, 1) := by decide +kernel
theorem dX1_dropOldest_26 : decode cX1_dropOldest 26 = .ok (.if_icmp .ge 23, 3) := by decide +kernel
theorem dX1_dropOldest_29 : decode cX1_dropOldest 29 = .ok (.aload_n 0, 1) := by decide +kernel
theorem dX1_dropOldest_30 : decode cX1_dropOldest 30 = .ok (.getfield 11, 3) := by decide +kernel
theorem dX1_dropOldest_33 : decode cX1_dropOldest 33 = .ok (.iload_n 2, 1) := by decide +kernel
theorem dX1_dropOldest_34 : decode cX1_dropOldest 34 = .ok (.aload_n 0, 1) := by decide +kernel
theorem dX1_dropOldest_35 : decode cX1_dropOldest 35 = .ok (.getfield 11, 3) := by decide +kernel
theorem dX1_dropOldest_38 : decode cX1_dropOldest 38 = .ok (.iload_n 2, 1) := by decide +kernel
theorem dX1_dropOldest_39 : decode cX1_dropOldest 39 = .ok (.iconst 1, 1) := by decide +kernel
theorem dX1_dropOldest_40 : decode cX1_dropOldest 40 = .ok (.iadd, 1) := by decide +kernel
theorem dX1_dropOldest_41 : decode cX1_dropOldest 41 = .ok (.aaload, 1) := by decide +kernel
theorem dX1_dropOldest_42 : decode cX1_dropOldest 42 = .ok (.aastore, 1) := by decide +kernel
theorem dX1_dropOldest_43 : decode cX1_dropOldest 43 = .ok (.iinc 2 1, 3) := by decide +kernel
theorem dX1_dropOldest_46 : decode cX1_dropOldest 46 = .ok (.goto (-28), 3) := by decide +kernel
theorem dX1_dropOldest_49 : decode cX1_dropOldest 49 = .ok (.aload_n 0, 1) := by decide +kernel
theorem dX1_dropOldest_50 : decode cX1_dropOldest 50 = .ok (.getfield 11, 3) := by decide +kernel
theorem dX1_dropOldest_53 : decode cX1_dropOldest 53 = .ok (.aload_n 0, 1) := by decide +kernel
theorem dX1_dropOldest_54 : decode cX1_dropOldest 54 = .ok (.getfield 11, 3) := by decide +kernel
theorem dX1_dropOldest_57 : decode cX1_dropOldest 57 = .ok (.arraylength, 1) := by decide +kernel
theorem dX1_dropOldest_58 : decode cX1_dropOldest 58 = .ok (.iconst 1, 1) := by decide +kernel
theorem dX1_dropOldest_59 : decode cX1_dropOldest 59 = .ok (.isub, 1) := by decide +kernel
theorem dX1_dropOldest_60 : decode cX1_dropOldest 60 = .ok (.aload_n 1, 1) := by decide +kernel
theorem dX1_dropOldest_61 : decode cX1_dropOldest 61 = .ok (.aastore, 1) := by decide +kernel
theorem dX1_dropOldest_62 : decode cX1_dropOldest 62 = .ok (.aload_n 0, 1) := by decide +kernel
theorem dX1_dropOldest_63 : decode cX1_dropOldest 63 = .ok (.aload_n 0, 1) := by decide +kernel
theorem dX1_dropOldest_64 : decode cX1_dropOldest 64 = .ok (.getfield 11, 3) := by decide +kernel
theorem dX1_dropOldest_67 : decode cX1_dropOldest 67 = .ok (.arraylength, 1) := by decide +kernel
theorem dX1_dropOldest_68 : decode cX1_dropOldest 68 = .ok (.iconst 1, 1) := by decide +kernel
theorem dX1_dropOldest_69 : decode cX1_dropOldest 69 = .ok (.isub, 1) := by decide +kernel
theorem dX1_dropOldest_70 : decode cX1_dropOldest 70 = .ok (.putfield 18, 3) := by decide +kernel
theorem dX1_dropOldest_73 : decode cX1_dropOldest 73 = .ok (.return_, 1) := by decide +kernel
theorem dX1_pop_0 : decode cX1_pop 0 = .ok (.aload_n 0, 1) := by decide +kernel
theorem dX1_pop_1 : decode cX1_pop 1 = .ok (.getfield 18, 3) := by decide +kernel
theorem dX1_pop_4 : decode cX1_pop 4 = .ok (.iconst 1, 1) := by decide +kernel
theorem dX1_pop_5 : decode cX1_pop 5 = .ok (.isub, 1) := by decide +kernel
theorem dX1_pop_6 : decode cX1_pop 6 = .ok (.istore_n 2, 1) := by decide +kernel
theorem dX1_pop_7 : decode cX1_pop 7 = .ok (.iload_n 2, 1) := by decide +kernel
theorem dX1_pop_8 : decode cX1_pop 8 = .ok (.ifCond .lt 36, 3) := by decide +kernel
theorem dX1_pop_11 : decode cX1_pop 11 = .ok (.iload_n 2, 1) := by decide +kernel
theorem dX1_pop_12 : decode cX1_pop 12 = .ok (.aload_n 0, 1) := by decide +kernel
theorem dX1_pop_13 : decode cX1_pop 13 = .ok (.getfield 11, 3) := by decide +kernel
theorem dX1_pop_16 : decode cX1_pop 16 = .ok (.arraylength, 1) := by decide +kernel
theorem dX1_pop_17 : decode cX1_pop 17 = .ok (.if_icmp .ge 27, 3) := by decide +kernel
theorem dX1_pop_20 : decode cX1_pop 20 = .ok (.aload_n 0, 1) := by decide +kernel
theorem dX1_pop_21 : decode cX1_pop 21 = .ok (.getfield 11, 3) := by decide +kernel
theorem dX1_pop_24 : decode cX1_pop 24 = .ok (.iload_n 2, 1) := by decide +kernel
theorem dX1_pop_25 : decode cX1_pop 25 = .ok (.aaload, 1) := by decide +kernel
theorem dX1_pop_26 : decode cX1_pop 26 = .ok (.ifnull 18, 3) := by decide +kernel
theorem dX1_pop_29 : decode cX1_pop 29 = .ok (.aload_n 1, 1) := by decide +kernel
theorem dX1_pop_30 : decode cX1_pop 30 = .ok (.aload_n 0, 1) := by decide +kernel
theorem dX1_pop_31 : decode cX1_pop 31 = .ok (.getfield 11, 3) := by decide +kernel
theorem dX1_pop_34 : decode cX1_pop 34 = .ok (.iload_n 2, 1) := by decide +kernel
theorem dX1_pop_35 : decode cX1_pop 35 = .ok (.aaload, 1) := by decide +kernel
theorem dX1_pop_36 : decode cX1_pop 36 = .ok (.invokevirtual 25, 3) := by decide +kernel
theorem dX1_pop_39 : decode cX1_pop 39 = .ok (.aload_n 0, 1) := by decide +kernel
theorem dX1_pop_40 : decode cX1_pop 40 = .ok (.iload_n 2, 1) := by decide +kernel
theorem dX1_pop_41 : decode cX1_pop 41 = .ok (.putfield 18, 3) := by decide +kernel
theorem dX1_pop_44 : decode cX1_pop 44 = .ok (.return_, 1) := by decide +kernel
theorem dX2_init_0 : decode cX2_init 0 = .ok (.aload_n 0, 1) := by decide +kernel
theorem dX2_init_1 : decode cX2_init 1 = .ok (.invokespecial 3, 3) := by decide +kernel
theorem dX2_init_4 : decode cX2_init 4 = .ok (.aload_n 0, 1) := by decide +kernel
theorem dX2_init_5 : decode cX2_init 5 = .ok (.iconst 5, 1) := by decide +kernel
theorem dX2_init_6 : decode cX2_init 6 = .ok (.newarray .long, 2) := by decide +kernel
theorem dX2_init_8 : decode cX2_init 8 = .ok (.putfield 9, 3) := by decide +kernel
theorem dX2_init_11 : decode cX2_init 11 = .ok (.aload_n 0, 1) := by decide +kernel
theorem dX2_init_12 : decode cX2_init 12 = .ok (.iconst 5, 1) := by decide +kernel
theorem dX2_init_13 : decode cX2_init 13 = .ok (.newarray .long, 2) := by decide +kernel
theorem dX2_init_15 : decode cX2_init 15 = .ok (.putfield 15, 3) := by decide +kernel
theorem dX2_init_18 : decode cX2_init 18 = .ok (.return_, 1) := by decide +kernel
theorem dX2_areSound_0 : decode cX2_areSound 0 = .ok (.aload_n 0, 1) := by decide +kernel
theorem dX2_areSound_1 : decode cX2_areSound 1 = .ok (.aload_n 1, 1) := by decide +kernel
theorem dX2_areSound_2 : decode cX2_areSound 2 = .ok (.invokevirtual 18, 3) := by decide +kernel
theorem dX2_areSound_5 : decode cX2_areSound 5 = .ok (.iconst 0, 1) := by decide +kernel
theorem dX2_areSound_6 : decode cX2_areSound 6 = .ok (.istore_n 2, 1) := by decide +kernel
theorem dX2_areSound_7 : decode cX2_areSound 7 = .ok (.iload_n 2, 1) := by decide +kernel
theorem dX2_areSound_8 : decode cX2_areSound 8 = .ok (.iconst 5, 1) := by decide +kernel
theorem dX2_areSound_9 : decode cX2_areSound 9 = .ok (.if_icmp .ge 45, 3) := by decide +kernel
theorem dX2_areSound_12 : decode cX2_areSound 12 = .ok (.iload_n 2, 1) := by decide +kernel
theorem dX2_areSound_13 : decode cX2_areSound 13 = .ok (.iconst 1, 1) := by decide +kernel
theorem dX2_areSound_14 : decode cX2_areSound 14 = .ok (.iadd, 1) := by decide +kernel
theorem dX2_areSound_15 : decode cX2_areSound 15 = .ok (.istore_n 3, 1) := by decide +kernel
theorem dX2_areSound_16 : decode cX2_areSound 16 = .ok (.iload_n 3, 1) := by decide +kernel
theorem dX2_areSound_17 : decode cX2_areSound 17 = .ok (.iconst 5, 1) := by decide +kernel
theorem dX2_areSound_18 : decode cX2_areSound 18 = .ok (.if_icmp .ge 30, 3) := by decide +kernel
theorem dX2_areSound_21 : decode cX2_areSound 21 = .ok (.aload_n 1, 1) := by decide +kernel
theorem dX2_areSound_22 : decode cX2_areSound 22 = .ok (.iload_n 2, 1) := by decide +kernel
theorem dX2_areSound_23 : decode cX2_areSound 23 = .ok (.iload_n 3, 1) := by decide +kernel
theorem dX2_areSound_24 : decode cX2_areSound 24 = .ok (.invokevirtual 22, 3) := by decide +kernel
theorem dX2_areSound_27 : decode cX2_areSound 27 = .ok (.ifCond .eq 15, 3) := by decide +kernel
theorem dX2_areSound_30 : decode cX2_areSound 30 = .ok (.aload_n 0, 1) := by decide +kernel
theorem dX2_areSound_31 : decode cX2_areSound 31 = .ok (.aload_n 1, 1) := by decide +kernel
theorem dX2_areSound_32 : decode cX2_areSound 32 = .ok (.iload_n 2, 1) := by decide +kernel
theorem dX2_areSound_33 : decode cX2_areSound 33 = .ok (.iload_n 3, 1) := by decide +kernel
theorem dX2_areSound_34 : decode cX2_areSound 34 = .ok (.invokevirtual 28, 3) := by decide +kernel
theorem dX2_areSound_37 : decode cX2_areSound 37 = .ok (.ifCond .ne 5, 3) := by decide +kernel
theorem dX2_areSound_40 : decode cX2_areSound 40 = .ok (.iconst 0, 1) := by decide +kernel
theorem dX2_areSound_41 : decode cX2_areSound 41 = .ok (.ireturn, 1) := by decide +kernel
theorem dX2_areSound_42 : decode cX2_areSound 42 = .ok (.iinc 3 1, 3) := by decide +kernel
theorem dX2_areSound_45 : decode cX2_areSound 45 = .ok (.goto (-29), 3) := by decide +kernel
theorem dX2_areSound_48 : decode cX2_areSound 48 = .ok (.iinc 2 1, 3) := by decide +kernel
theorem dX2_areSound_51 : decode cX2_areSound 51 = .ok (.goto (-44), 3) := by decide +kernel
theorem dX2_areSound_54 : decode cX2_areSound 54 = .ok (.iconst 1, 1) := by decide +kernel
theorem dX2_areSound_55 : decode cX2_areSound 55 = .ok (.ireturn, 1) := by decide +kernel
theorem dX2_agrees_0 : decode cX2_agrees 0 = .ok (.aload_n 0, 1) := by decide +kernel
theorem dX2_agrees_1 : decode cX2_agrees 1 = .ok (.getfield 9, 3) := by decide +kernel
theorem dX2_agrees_4 : decode cX2_agrees 4 = .ok (.iload_n 2, 1) := by decide +kernel
theorem dX2_agrees_5 : decode cX2_agrees 5 = .ok (.invokestatic 32, 3) := by decide +kernel
theorem dX2_agrees_8 : decode cX2_agrees 8 = .ok (.aload_n 1, 1) := by decide +kernel
theorem dX2_agrees_9 : decode cX2_agrees 9 = .ok (.iload_n 2, 1) := by decide +kernel
theorem dX2_agrees_10 : decode cX2_agrees 10 = .ok (.iload_n 3, 1) := by decide +kernel
theorem dX2_agrees_11 : decode cX2_agrees 11 = .ok (.invokevirtual 36, 3) := by decide +kernel
theorem dX2_agrees_14 : decode cX2_agrees 14 = .ok (.i2l, 1) := by decide +kernel
theorem dX2_agrees_15 : decode cX2_agrees 15 = .ok (.lmul, 1) := by decide +kernel
theorem dX2_agrees_16 : decode cX2_agrees 16 = .ok (.aload_n 0, 1) := by decide +kernel
theorem dX2_agrees_17 : decode cX2_agrees 17 = .ok (.getfield 15, 3) := by decide +kernel
theorem dX2_agrees_20 : decode cX2_agrees 20 = .ok (.iload_n 3, 1) := by decide +kernel
theorem dX2_agrees_21 : decode cX2_agrees 21 = .ok (.invokestatic 32, 3) := by decide +kernel
theorem dX2_agrees_24 : decode cX2_agrees 24 = .ok (.lmul, 1) := by decide +kernel
theorem dX2_agrees_25 : decode cX2_agrees 25 = .ok (.aload_n 0, 1) := by decide +kernel
theorem dX2_agrees_26 : decode cX2_agrees 26 = .ok (.getfield 9, 3) := by decide +kernel
theorem dX2_agrees_29 : decode cX2_agrees 29 = .ok (.iload_n 3, 1) := by decide +kernel
theorem dX2_agrees_30 : decode cX2_agrees 30 = .ok (.invokestatic 32, 3) := by decide +kernel
theorem dX2_agrees_33 : decode cX2_agrees 33 = .ok (.aload_n 1, 1) := by decide +kernel
theorem dX2_agrees_34 : decode cX2_agrees 34 = .ok (.iload_n 3, 1) := by decide +kernel
theorem dX2_agrees_35 : decode cX2_agrees 35 = .ok (.iload_n 2, 1) := by decide +kernel
theorem dX2_agrees_36 : decode cX2_agrees 36 = .ok (.invokevirtual 36, 3) := by decide +kernel
theorem dX2_agrees_39 : decode cX2_agrees 39 = .ok (.i2l, 1) := by decide +kernel
theorem dX2_agrees_40 : decode cX2_agrees 40 = .ok (.lmul, 1) := by decide +kernel
theorem dX2_agrees_41 : decode cX2_agrees 41 = .ok (.aload_n 0, 1) := by decide +kernel
theorem dX2_agrees_42 : decode cX2_agrees 42 = .ok (.getfield 15, 3) := by decide +kernel
theorem dX2_agrees_45 : decode cX2_agrees 45 = .ok (.iload_n 2, 1) := by decide +kernel
theorem dX2_agrees_46 : decode cX2_agrees 46 = .ok (.invokestatic 32, 3) := by decide +kernel
theorem dX2_agrees_49 : decode cX2_agrees 49 = .ok (.lmul, 1) := by decide +kernel
theorem dX2_agrees_50 : decode cX2_agrees 50 = .ok (.lcmp, 1) := by decide +kernel
theorem dX2_agrees_51 : decode cX2_agrees 51 = .ok (.ifCond .ne 7, 3) := by decide +kernel
theorem dX2_agrees_54 : decode cX2_agrees 54 = .ok (.iconst 1, 1) := by decide +kernel
theorem dX2_agrees_55 : decode cX2_agrees 55 = .ok (.goto 4, 3) := by decide +kernel
theorem dX2_agrees_58 : decode cX2_agrees 58 = .ok (.iconst 0, 1) := by decide +kernel
theorem dX2_agrees_59 : decode cX2_agrees 59 = .ok (.ireturn, 1) := by decide +kernel
theorem dX2_measure_0 : decode cX2_measure 0 = .ok (.iconst 0, 1) := by decide +kernel
theorem dX2_measure_1 : decode cX2_measure 1 = .ok (.istore_n 2, 1) := by decide +kernel
theorem dX2_measure_2 : decode cX2_measure 2 = .ok (.iload_n 2, 1) := by decide +kernel
theorem dX2_measure_3 : decode cX2_measure 3 = .ok (.iconst 5, 1) := by decide +kernel
theorem dX2_measure_4 : decode cX2_measure 4 = .ok (.if_icmp .ge 27, 3) := by decide +kernel
theorem dX2_measure_7 : decode cX2_measure 7 = .ok (.aload_n 0, 1) := by decide +kernel
theorem dX2_measure_8 : decode cX2_measure 8 = .ok (.getfield 9, 3) := by decide +kernel
theorem dX2_measure_11 : decode cX2_measure 11 = .ok (.iload_n 2, 1) := by decide +kernel
theorem dX2_measure_12 : decode cX2_measure 12 = .ok (.lconst 0, 1) := by decide +kernel
theorem dX2_measure_13 : decode cX2_measure 13 = .ok (.invokestatic 40, 3) := by decide +kernel
theorem dX2_measure_16 : decode cX2_measure 16 = .ok (.aload_n 0, 1) := by decide +kernel
theorem dX2_measure_17 : decode cX2_measure 17 = .ok (.getfield 15, 3) := by decide +kernel
theorem dX2_measure_20 : decode cX2_measure 20 = .ok (.iload_n 2, 1) := by decide +kernel
theorem dX2_measure_21 : decode cX2_measure 21 = .ok (.lconst 0, 1) := by decide +kernel
theorem dX2_measure_22 : decode cX2_measure 22 = .ok (.invokestatic 40, 3) := by decide +kernel
theorem dX2_measure_25 : decode cX2_measure 25 = .ok (.iinc 2 1, 3) := by decide +kernel
theorem dX2_measure_28 : decode cX2_measure 28 = .ok (.goto (-26), 3) := by decide +kernel
theorem dX2_measure_31 : decode cX2_measure 31 = .ok (.iconst 0, 1) := by decide +kernel
theorem dX2_measure_32 : decode cX2_measure 32 = .ok (.istore_n 2, 1) := by decide +kernel
theorem dX2_measure_33 : decode cX2_measure 33 = .ok (.iload_n 2, 1) := by decide +kernel
theorem dX2_measure_34 : decode cX2_measure 34 = .ok (.iconst 5, 1) := by decide +kernel
theorem dX2_measure_35 : decode cX2_measure 35 = .ok (.if_icmp .ge 40, 3) := by decide +kernel
theorem dX2_measure_38 : decode cX2_measure 38 = .ok (.aload_n 0, 1) := by decide +kernel
theorem dX2_measure_39 : decode cX2_measure 39 = .ok (.iload_n 2, 1) := by decide +kernel
theorem dX2_measure_40 : decode cX2_measure 40 = .ok (.invokevirtual 44, 3) := by decide +kernel
theorem dX2_measure_43 : decode cX2_measure 43 = .ok (.ifCond .ne 26, 3) := by decide +kernel
theorem dX2_measure_46 : decode cX2_measure 46 = .ok (.aload_n 0, 1) := by decide +kernel
theorem dX2_measure_47 : decode cX2_measure 47 = .ok (.getfield 9, 3) := by decide +kernel
theorem dX2_measure_50 : decode cX2_measure 50 = .ok (.iload_n 2, 1) := by decide +kernel
theorem dX2_measure_51 : decode cX2_measure 51 = .ok (.lconst 1, 1) := by decide +kernel
theorem dX2_measure_52 : decode cX2_measure 52 = .ok (.invokestatic 40, 3) := by decide +kernel
theorem dX2_measure_55 : decode cX2_measure 55 = .ok (.aload_n 0, 1) := by decide +kernel
theorem dX2_measure_56 : decode cX2_measure 56 = .ok (.getfield 15, 3) := by decide +kernel
theorem dX2_measure_59 : decode cX2_measure 59 = .ok (.iload_n 2, 1) := by decide +kernel
theorem dX2_measure_60 : decode cX2_measure 60 = .ok (.lconst 1, 1) := by decide +kernel
theorem dX2_measure_61 : decode cX2_measure 61 = .ok (.invokestatic 40, 3) := by decide +kernel
theorem dX2_measure_64 : decode cX2_measure 64 = .ok (.aload_n 0, 1) := by decide +kernel
theorem dX2_measure_65 : decode cX2_measure 65 = .ok (.aload_n 1, 1) := by decide +kernel
theorem dX2_measure_66 : decode cX2_measure 66 = .ok (.invokevirtual 48, 3) := by decide +kernel
theorem dX2_measure_69 : decode cX2_measure 69 = .ok (.iinc 2 1, 3) := by decide +kernel
theorem dX2_measure_72 : decode cX2_measure 72 = .ok (.goto (-39), 3) := by decide +kernel
theorem dX2_measure_75 : decode cX2_measure 75 = .ok (.return_, 1) := by decide +kernel
theorem dX2_isMeasured_0 : decode cX2_isMeasured 0 = .ok (.aload_n 0, 1) := by decide +kernel
theorem dX2_isMeasured_1 : decode cX2_isMeasured 1 = .ok (.getfield 9, 3) := by decide +kernel
theorem dX2_isMeasured_4 : decode cX2_isMeasured 4 = .ok (.iload_n 1, 1) := by decide +kernel
theorem dX2_isMeasured_5 : decode cX2_isMeasured 5 = .ok (.invokestatic 32, 3) := by decide +kernel
theorem dX2_isMeasured_8 : decode cX2_isMeasured 8 = .ok (.lconst 0, 1) := by decide +kernel
theorem dX2_isMeasured_9 : decode cX2_isMeasured 9 = .ok (.lcmp, 1) := by decide +kernel
theorem dX2_isMeasured_10 : decode cX2_isMeasured 10 = .ok (.ifCond .le 7, 3) := by decide +kernel
theorem dX2_isMeasured_13 : decode cX2_isMeasured 13 = .ok (.iconst 1, 1) := by decide +kernel
theorem dX2_isMeasured_14 : decode cX2_isMeasured 14 = .ok (.goto 4, 3) := by decide +kernel
theorem dX2_isMeasured_17 : decode cX2_isMeasured 17 = .ok (.iconst 0, 1) := by decide +kernel
theorem dX2_isMeasured_18 : decode cX2_isMeasured 18 = .ok (.ireturn, 1) := by decide +kernel
theorem dX2_spread_0 : decode cX2_spread 0 = .ok (.iconst 1, 1) := by decide +kernel
theorem dX2_spread_1 : decode cX2_spread 1 = .ok (.istore_n 2, 1) := by decide +kernel
theorem dX2_spread_2 : decode cX2_spread 2 = .ok (.iload_n 2, 1) := by decide +kernel
theorem dX2_spread_3 : decode cX2_spread 3 = .ok (.iconst 5, 1) := by decide +kernel
theorem dX2_spread_4 : decode cX2_spread 4 = .ok (.if_icmp .ge 116, 3) := by decide +kernel
theorem dX2_spread_7 : decode cX2_spread 7 = .ok (.iconst 0, 1) := by decide +kernel
theorem dX2_spread_8 : decode cX2_spread 8 = .ok (.istore_n 3, 1) := by decide +kernel
theorem dX2_spread_9 : decode cX2_spread 9 = .ok (.iload_n 3, 1) := by decide +kernel
theorem dX2_spread_10 : decode cX2_spread 10 = .ok (.iconst 5, 1) := by decide +kernel
theorem dX2_spread_11 : decode cX2_spread 11 = .ok (.if_icmp .ge 103, 3) := by decide +kernel
theorem dX2_spread_14 : decode cX2_spread 14 = .ok (.iconst 0, 1) := by decide +kernel
theorem dX2_spread_15 : decode cX2_spread 15 = .ok (.istore 4, 2) := by decide +kernel
theorem dX2_spread_17 : decode cX2_spread 17 = .ok (.iload 4, 2) := by decide +kernel
theorem dX2_spread_19 : decode cX2_spread 19 = .ok (.iconst 5, 1) := by decide +kernel
theorem dX2_spread_20 : decode cX2_spread 20 = .ok (.if_icmp .ge 88, 3) := by decide +kernel
theorem dX2_spread_23 : decode cX2_spread 23 = .ok (.aload_n 1, 1) := by decide +kernel
theorem dX2_spread_24 : decode cX2_spread 24 = .ok (.iload_n 3, 1) := by decide +kernel
theorem dX2_spread_25 : decode cX2_spread 25 = .ok (.iload 4, 2) := by decide +kernel
theorem dX2_spread_27 : decode cX2_spread 27 = .ok (.invokevirtual 22, 3) := by decide +kernel
theorem dX2_spread_30 : decode cX2_spread 30 = .ok (.ifCond .eq 72, 3) := by decide +kernel
theorem dX2_spread_33 : decode cX2_spread 33 = .ok (.aload_n 0, 1) := by decide +kernel
theorem dX2_spread_34 : decode cX2_spread 34 = .ok (.iload_n 3, 1) := by decide +kernel
theorem dX2_spread_35 : decode cX2_spread 35 = .ok (.invokevirtual 44, 3) := by decide +kernel
theorem dX2_spread_38 : decode cX2_spread 38 = .ok (.ifCond .eq 64, 3) := by decide +kernel
theorem dX2_spread_41 : decode cX2_spread 41 = .ok (.aload_n 0, 1) := by decide +kernel
theorem dX2_spread_42 : decode cX2_spread 42 = .ok (.iload 4, 2) := by decide +kernel
theorem dX2_spread_44 : decode cX2_spread 44 = .ok (.invokevirtual 44, 3) := by decide +kernel
theorem dX2_spread_47 : decode cX2_spread 47 = .ok (.ifCond .ne 55, 3) := by decide +kernel
theorem dX2_spread_50 : decode cX2_spread 50 = .ok (.aload_n 0, 1) := by decide +kernel
theorem dX2_spread_51 : decode cX2_spread 51 = .ok (.getfield 9, 3) := by decide +kernel
theorem dX2_spread_54 : decode cX2_spread 54 = .ok (.iload 4, 2) := by decide +kernel
theorem dX2_spread_56 : decode cX2_spread 56 = .ok (.aload_n 0, 1) := by decide +kernel
theorem dX2_spread_57 : decode cX2_spread 57 = .ok (.getfield 9, 3) := by decide +kernel
theorem dX2_spread_60 : decode cX2_spread 60 = .ok (.iload_n 3, 1) := by decide +kernel
theorem dX2_spread_61 : decode cX2_spread 61 = .ok (.invokestatic 32, 3) := by decide +kernel
theorem dX2_spread_64 : decode cX2_spread 64 = .ok (.aload_n 1, 1) := by decide +kernel
theorem dX2_spread_65 : decode cX2_spread 65 = .ok (.iload_n 3, 1) := by decide +kernel
theorem dX2_spread_66 : decode cX2_spread 66 = .ok (.iload 4, 2) := by decide +kernel
theorem dX2_spread_68 : decode cX2_spread 68 = .ok (.invokevirtual 36, 3) := by decide +kernel
theorem dX2_spread_71 : decode cX2_spread 71 = .ok (.i2l, 1) := by decide +kernel
theorem dX2_spread_72 : decode cX2_spread 72 = .ok (.lmul, 1) := by decide +kernel
theorem dX2_spread_73 : decode cX2_spread 73 = .ok (.invokestatic 40, 3) := by decide +kernel
theorem dX2_spread_76 : decode cX2_spread 76 = .ok (.aload_n 0, 1) := by decide +kernel
theorem dX2_spread_77 : decode cX2_spread 77 = .ok (.getfield 15, 3) := by decide +kernel
theorem dX2_spread_80 : decode cX2_spread 80 = .ok (.iload 4, 2) := by decide +kernel
theorem dX2_spread_82 : decode cX2_spread 82 = .ok (.aload_n 0, 1) := by decide +kernel
theorem dX2_spread_83 : decode cX2_spread 83 = .ok (.getfield 15, 3) := by decide +kernel
theorem dX2_spread_86 : decode cX2_spread 86 = .ok (.iload_n 3, 1) := by decide +kernel
theorem dX2_spread_87 : decode cX2_spread 87 = .ok (.invokestatic 32, 3) := by decide +kernel
theorem dX2_spread_90 : decode cX2_spread 90 = .ok (.aload_n 1, 1) := by decide +kernel
theorem dX2_spread_91 : decode cX2_spread 91 = .ok (.iload 4, 2) := by decide +kernel
theorem dX2_spread_93 : decode cX2_spread 93 = .ok (.iload_n 3, 1) := by decide +kernel
theorem dX2_spread_94 : decode cX2_spread 94 = .ok (.invokevirtual 36, 3) := by decide +kernel
theorem dX2_spread_97 : decode cX2_spread 97 = .ok (.i2l, 1) := by decide +kernel
theorem dX2_spread_98 : decode cX2_spread 98 = .ok (.lmul, 1) := by decide +kernel
theorem dX2_spread_99 : decode cX2_spread 99 = .ok (.invokestatic 40, 3) := by decide +kernel
theorem dX2_spread_102 : decode cX2_spread 102 = .ok (.iinc 4 1, 3) := by decide +kernel
theorem dX2_spread_105 : decode cX2_spread 105 = .ok (.goto (-88), 3) := by decide +kernel
theorem dX2_spread_108 : decode cX2_spread 108 = .ok (.iinc 3 1, 3) := by decide +kernel
theorem dX2_spread_111 : decode cX2_spread 111 = .ok (.goto (-102), 3) := by decide +kernel
theorem dX2_spread_114 : decode cX2_spread 114 = .ok (.iinc 2 1, 3) := by decide +kernel
theorem dX2_spread_117 : decode cX2_spread 117 = .ok (.goto (-115), 3) := by decide +kernel
theorem dX2_spread_120 : decode cX2_spread 120 = .ok (.return_, 1) := by decide +kernel
theorem dX3_init_0 : decode cX3_init 0 = .ok (.aload_n 0, 1) := by decide +kernel
theorem dX3_init_1 : decode cX3_init 1 = .ok (.invokespecial 3, 3) := by decide +kernel
theorem dX3_init_4 : decode cX3_init 4 = .ok (.aload_n 0, 1) := by decide +kernel
theorem dX3_init_5 : decode cX3_init 5 = .ok (.sipush 185, 3) := by decide +kernel
theorem dX3_init_8 : decode cX3_init 8 = .ok (.newarray .int, 2) := by decide +kernel
theorem dX3_init_10 : decode cX3_init 10 = .ok (.putfield 9, 3) := by decide +kernel
theorem dX3_init_13 : decode cX3_init 13 = .ok (.aload_n 0, 1) := by decide +kernel
theorem dX3_init_14 : decode cX3_init 14 = .ok (.bipush 37, 2) := by decide +kernel
theorem dX3_init_16 : decode cX3_init 16 = .ok (.newarray .int, 2) := by decide +kernel
theorem dX3_init_18 : decode cX3_init 18 = .ok (.putfield 15, 3) := by decide +kernel
theorem dX3_init_21 : decode cX3_init 21 = .ok (.aload_n 0, 1) := by decide +kernel
theorem dX3_init_22 : decode cX3_init 22 = .ok (.new 18, 3) := by decide +kernel
theorem dX3_init_25 : decode cX3_init 25 = .ok (.dup, 1) := by decide +kernel
theorem dX3_init_26 : decode cX3_init 26 = .ok (.invokespecial 20, 3) := by decide +kernel
theorem dX3_init_29 : decode cX3_init 29 = .ok (.putfield 21, 3) := by decide +kernel
theorem dX3_init_32 : decode cX3_init 32 = .ok (.iconst 0, 1) := by decide +kernel
theorem dX3_init_33 : decode cX3_init 33 = .ok (.istore_n 1, 1) := by decide +kernel
theorem dX3_init_34 : decode cX3_init 34 = .ok (.iload_n 1, 1) := by decide +kernel
theorem dX3_init_35 : decode cX3_init 35 = .ok (.bipush 37, 2) := by decide +kernel
theorem dX3_init_37 : decode cX3_init 37 = .ok (.if_icmp .ge 123, 3) := by decide +kernel
theorem dX3_init_40 : decode cX3_init 40 = .ok (.iload_n 1, 1) := by decide +kernel
theorem dX3_init_41 : decode cX3_init 41 = .ok (.invokestatic 25, 3) := by decide +kernel
theorem dX3_init_44 : decode cX3_init 44 = .ok (.istore_n 2, 1) := by decide +kernel
theorem dX3_init_45 : decode cX3_init 45 = .ok (.getstatic 29, 3) := by decide +kernel
theorem dX3_init_48 : decode cX3_init 48 = .ok (.iload_n 1, 1) := by decide +kernel
theorem dX3_init_49 : decode cX3_init 49 = .ok (.invokestatic 32, 3) := by decide +kernel
theorem dX3_init_52 : decode cX3_init 52 = .ok (.istore_n 3, 1) := by decide +kernel
theorem dX3_init_53 : decode cX3_init 53 = .ok (.iload_n 2, 1) := by decide +kernel
theorem dX3_init_54 : decode cX3_init 54 = .ok (.iconst 1, 1) := by decide +kernel
theorem dX3_init_55 : decode cX3_init 55 = .ok (.isub, 1) := by decide +kernel
theorem dX3_init_56 : decode cX3_init 56 = .ok (.istore 4, 2) := by decide +kernel
theorem dX3_init_58 : decode cX3_init 58 = .ok (.iload 4, 2) := by decide +kernel
theorem dX3_init_60 : decode cX3_init 60 = .ok (.ifCond .lt 31, 3) := by decide +kernel
theorem dX3_init_63 : decode cX3_init 63 = .ok (.aload_n 0, 1) := by decide +kernel
theorem dX3_init_64 : decode cX3_init 64 = .ok (.getfield 9, 3) := by decide +kernel
theorem dX3_init_67 : decode cX3_init 67 = .ok (.iload_n 1, 1) := by decide +kernel
theorem dX3_init_68 : decode cX3_init 68 = .ok (.iconst 5, 1) := by decide +kernel
theorem dX3_init_69 : decode cX3_init 69 = .ok (.imul, 1) := by decide +kernel
theorem dX3_init_70 : decode cX3_init 70 = .ok (.iload 4, 2) := by decide +kernel
theorem dX3_init_72 : decode cX3_init 72 = .ok (.iadd, 1) := by decide +kernel
theorem dX3_init_73 : decode cX3_init 73 = .ok (.iload_n 3, 1) := by decide +kernel
theorem dX3_init_74 : decode cX3_init 74 = .ok (.bipush 10, 2) := by decide +kernel
theorem dX3_init_76 : decode cX3_init 76 = .ok (.irem, 1) := by decide +kernel
theorem dX3_init_77 : decode cX3_init 77 = .ok (.invokestatic 36, 3) := by decide +kernel
theorem dX3_init_80 : decode cX3_init 80 = .ok (.iload_n 3, 1) := by decide +kernel
theorem dX3_init_81 : decode cX3_init 81 = .ok (.bipush 10, 2) := by decide +kernel
theorem dX3_init_83 : decode cX3_init 83 = .ok (.idiv, 1) := by decide +kernel
theorem dX3_init_84 : decode cX3_init 84 = .ok (.istore_n 3, 1) := by decide +kernel
theorem dX3_init_85 : decode cX3_init 85 = .ok (.iinc 4 (-1), 3) := by decide +kernel
theorem dX3_init_88 : decode cX3_init 88 = .ok (.goto (-30), 3) := by decide +kernel
theorem dX3_init_91 : decode cX3_init 91 = .ok (.iconst 0, 1) := by decide +kernel
theorem dX3_init_92 : decode cX3_init 92 = .ok (.istore 4, 2) := by decide +kernel
theorem dX3_init_94 : decode cX3_init 94 = .ok (.aload_n 0, 1) := by decide +kernel
theorem dX3_init_95 : decode cX3_init 95 = .ok (.iload_n 1, 1) := by decide +kernel
theorem dX3_init_96 : decode cX3_init 96 = .ok (.iload_n 2, 1) := by decide +kernel
theorem dX3_init_97 : decode cX3_init 97 = .ok (.iconst 1, 1) := by decide +kernel
theorem dX3_init_98 : decode cX3_init 98 = .ok (.isub, 1) := by decide +kernel
theorem dX3_init_99 : decode cX3_init 99 = .ok (.invokevirtual 40, 3) := by decide +kernel
theorem dX3_init_102 : decode cX3_init 102 = .ok (.istore 5, 2) := by decide +kernel
theorem dX3_init_104 : decode cX3_init 104 = .ok (.iconst 0, 1) := by decide +kernel
theorem dX3_init_105 : decode cX3_init 105 = .ok (.istore 6, 2) := by decide +kernel
theorem dX3_init_107 : decode cX3_init 107 = .ok (.iload 6, 2) := by decide +kernel
theorem dX3_init_109 : decode cX3_init 109 = .ok (.iload_n 2, 1) := by decide +kernel
theorem dX3_init_110 : decode cX3_init 110 = .ok (.if_icmp .ge 34, 3) := by decide +kernel
theorem dX3_init_113 : decode cX3_init 113 = .ok (.aload_n 0, 1) := by decide +kernel
theorem dX3_init_114 : decode cX3_init 114 = .ok (.iload_n 1, 1) := by decide +kernel
theorem dX3_init_115 : decode cX3_init 115 = .ok (.iload 6, 2) := by decide +kernel
theorem dX3_init_117 : decode cX3_init 117 = .ok (.invokevirtual 40, 3) := by decide +kernel
theorem dX3_init_120 : decode cX3_init 120 = .ok (.istore 7, 2) := by decide +kernel
theorem dX3_init_122 : decode cX3_init 122 = .ok (.iload 4, 2) := by decide +kernel
theorem dX3_init_124 : decode cX3_init 124 = .ok (.iload 5, 2) := by decide +kernel
theorem dX3_init_126 : decode cX3_init 126 = .ok (.iload 7, 2) := by decide +kernel
theorem dX3_init_128 : decode cX3_init 128 = .ok (.invokestatic 44, 3) := by decide +kernel
theorem dX3_init_131 : decode cX3_init 131 = .ok (.ior, 1) := by decide +kernel
theorem dX3_init_132 : decode cX3_init 132 = .ok (.istore 4, 2) := by decide +kernel
theorem dX3_init_134 : decode cX3_init 134 = .ok (.iload 7, 2) := by decide +kernel
theorem dX3_init_136 : decode cX3_init 136 = .ok (.istore 5, 2) := by decide +kernel
theorem dX3_init_138 : decode cX3_init 138 = .ok (.iinc 6 1, 3) := by decide +kernel
theorem dX3_init_141 : decode cX3_init 141 = .ok (.goto (-34), 3) := by decide +kernel
theorem dX3_init_144 : decode cX3_init 144 = .ok (.aload_n 0, 1) := by decide +kernel
theorem dX3_init_145 : decode cX3_init 145 = .ok (.getfield 15, 3) := by decide +kernel
theorem dX3_init_148 : decode cX3_init 148 = .ok (.iload_n 1, 1) := by decide +kernel
theorem dX3_init_149 : decode cX3_init 149 = .ok (.iload 4, 2) := by decide +kernel
theorem dX3_init_151 : decode cX3_init 151 = .ok (.invokestatic 36, 3) := by decide +kernel
theorem dX3_init_154 : decode cX3_init 154 = .ok (.iinc 1 1, 3) := by decide +kernel
theorem dX3_init_157 : decode cX3_init 157 = .ok (.goto (-123), 3) := by decide +kernel
theorem dX3_init_160 : decode cX3_init 160 = .ok (.return_, 1) := by decide +kernel
theorem dX3_parishAt_0 : decode cX3_parishAt 0 = .ok (.aload_n 0, 1) := by decide +kernel
theorem dX3_parishAt_1 : decode cX3_parishAt 1 = .ok (.getfield 9, 3) := by decide +kernel
theorem dX3_parishAt_4 : decode cX3_parishAt 4 = .ok (.iload_n 1, 1) := by decide +kernel
theorem dX3_parishAt_5 : decode cX3_parishAt 5 = .ok (.iconst 5, 1) := by decide +kernel
theorem dX3_parishAt_6 : decode cX3_parishAt 6 = .ok (.imul, 1) := by decide +kernel
theorem dX3_parishAt_7 : decode cX3_parishAt 7 = .ok (.iload_n 2, 1) := by decide +kernel
theorem dX3_parishAt_8 : decode cX3_parishAt 8 = .ok (.iadd, 1) := by decide +kernel
theorem dX3_parishAt_9 : decode cX3_parishAt 9 = .ok (.invokestatic 32, 3) := by decide +kernel
theorem dX3_parishAt_12 : decode cX3_parishAt 12 = .ok (.ireturn, 1) := by decide +kernel
theorem dX3_stands_0 : decode cX3_stands 0 = .ok (.aload_n 0, 1) := by decide +kernel
theorem dX3_stands_1 : decode cX3_stands 1 = .ok (.getfield 15, 3) := by decide +kernel
theorem dX3_stands_4 : decode cX3_stands 4 = .ok (.iload_n 2, 1) := by decide +kernel
theorem dX3_stands_5 : decode cX3_stands 5 = .ok (.invokestatic 32, 3) := by decide +kernel
theorem dX3_stands_8 : decode cX3_stands 8 = .ok (.istore_n 3, 1) := by decide +kernel
theorem dX3_stands_9 : decode cX3_stands 9 = .ok (.aload_n 1, 1) := by decide +kernel
theorem dX3_stands_10 : decode cX3_stands 10 = .ok (.getfield 47, 3) := by decide +kernel
theorem dX3_stands_13 : decode cX3_stands 13 = .ok (.iload_n 3, 1) := by decide +kernel
theorem dX3_stands_14 : decode cX3_stands 14 = .ok (.iand, 1) := by decide +kernel
theorem dX3_stands_15 : decode cX3_stands 15 = .ok (.iload_n 3, 1) := by decide +kernel
theorem dX3_stands_16 : decode cX3_stands 16 = .ok (.if_icmp .ne 7, 3) := by decide +kernel
theorem dX3_stands_19 : decode cX3_stands 19 = .ok (.iconst 1, 1) := by decide +kernel
theorem dX3_stands_20 : decode cX3_stands 20 = .ok (.goto 4, 3) := by decide +kernel
theorem dX3_stands_23 : decode cX3_stands 23 = .ok (.iconst 0, 1) := by decide +kernel
theorem dX3_stands_24 : decode cX3_stands 24 = .ok (.ireturn, 1) := by decide +kernel
theorem dX3_standsWith_0 : decode cX3_standsWith 0 = .ok (.aload_n 0, 1) := by decide +kernel
theorem dX3_standsWith_1 : decode cX3_standsWith 1 = .ok (.getfield 15, 3) := by decide +kernel
theorem dX3_standsWith_4 : decode cX3_standsWith 4 = .ok (.iload_n 2, 1) := by decide +kernel
theorem dX3_standsWith_5 : decode cX3_standsWith 5 = .ok (.invokestatic 32, 3) := by decide +kernel
theorem dX3_standsWith_8 : decode cX3_standsWith 8 = .ok (.iload_n 3, 1) := by decide +kernel
theorem dX3_standsWith_9 : decode cX3_standsWith 9 = .ok (.iand, 1) := by decide +kernel
theorem dX3_standsWith_10 : decode cX3_standsWith 10 = .ok (.ifCond .eq 16, 3) := by decide +kernel
theorem dX3_standsWith_13 : decode cX3_standsWith 13 = .ok (.aload_n 0, 1) := by decide +kernel
theorem dX3_standsWith_14 : decode cX3_standsWith 14 = .ok (.aload_n 1, 1) := by decide +kernel
theorem dX3_standsWith_15 : decode cX3_standsWith 15 = .ok (.iload_n 2, 1) := by decide +kernel
theorem dX3_standsWith_16 : decode cX3_standsWith 16 = .ok (.invokevirtual 50, 3) := by decide +kernel
theorem dX3_standsWith_19 : decode cX3_standsWith 19 = .ok (.ifCond .eq 7, 3) := by decide +kernel
theorem dX3_standsWith_22 : decode cX3_standsWith 22 = .ok (.iconst 1, 1) := by decide +kernel
theorem dX3_standsWith_23 : decode cX3_standsWith 23 = .ok (.goto 4, 3) := by decide +kernel
theorem dX3_standsWith_26 : decode cX3_standsWith 26 = .ok (.iconst 0, 1) := by decide +kernel
theorem dX3_standsWith_27 : decode cX3_standsWith 27 = .ok (.ireturn, 1) := by decide +kernel
theorem dX3_standing_0 : decode cX3_standing 0 = .ok (.iconst 0, 1) := by decide +kernel
theorem dX3_standing_1 : decode cX3_standing 1 = .ok (.istore_n 2, 1) := by decide +kernel
theorem dX3_standing_2 : decode cX3_standing 2 = .ok (.iconst 0, 1) := by decide +kernel
theorem dX3_standing_3 : decode cX3_standing 3 = .ok (.istore_n 3, 1) := by decide +kernel
theorem dX3_standing_4 : decode cX3_standing 4 = .ok (.iload_n 3, 1) := by decide +kernel
theorem dX3_standing_5 : decode cX3_standing 5 = .ok (.bipush 37, 2) := by decide +kernel
theorem dX3_standing_7 : decode cX3_standing 7 = .ok (.if_icmp .ge 21, 3) := by decide +kernel
theorem dX3_standing_10 : decode cX3_standing 10 = .ok (.aload_n 0, 1) := by decide +kernel
theorem dX3_standing_11 : decode cX3_standing 11 = .ok (.aload_n 1, 1) := by decide +kernel
theorem dX3_standing_12 : decode cX3_standing 12 = .ok (.iload_n 3, 1) := by decide +kernel
theorem dX3_standing_13 : decode cX3_standing 13 = .ok (.invokevirtual 50, 3) := by decide +kernel
theorem dX3_standing_16 : decode cX3_standing 16 = .ok (.ifCond .eq 6, 3) := by decide +kernel
theorem dX3_standing_19 : decode cX3_standing 19 = .ok (.iinc 2 1, 3) := by decide +kernel
theorem dX3_standing_22 : decode cX3_standing 22 = .ok (.iinc 3 1, 3) := by decide +kernel
theorem dX3_standing_25 : decode cX3_standing 25 = .ok (.goto (-21), 3) := by decide +kernel
theorem dX3_standing_28 : decode cX3_standing 28 = .ok (.iload_n 2, 1) := by decide +kernel
theorem dX3_standing_29 : decode cX3_standing 29 = .ok (.ireturn, 1) := by decide +kernel
theorem dX3_standingWith_0 : decode cX3_standingWith 0 = .ok (.iload_n 2, 1) := by decide +kernel
theorem dX3_standingWith_1 : decode cX3_standingWith 1 = .ok (.iload_n 3, 1) := by decide +kernel
theorem dX3_standingWith_2 : decode cX3_standingWith 2 = .ok (.invokestatic 44, 3) := by decide +kernel
theorem dX3_standingWith_5 : decode cX3_standingWith 5 = .ok (.istore 4, 2) := by decide +kernel
theorem dX3_standingWith_7 : decode cX3_standingWith 7 = .ok (.iconst 0, 1) := by decide +kernel
theorem dX3_standingWith_8 : decode cX3_standingWith 8 = .ok (.istore 5, 2) := by decide +kernel
theorem dX3_standingWith_10 : decode cX3_standingWith 10 = .ok (.iconst 0, 1) := by decide +kernel
theorem dX3_standingWith_11 : decode cX3_standingWith 11 = .ok (.istore 6, 2) := by decide +kernel
theorem dX3_standingWith_13 : decode cX3_standingWith 13 = .ok (.iload 6, 2) := by decide +kernel
theorem dX3_standingWith_15 : decode cX3_standingWith 15 = .ok (.bipush 37, 2) := by decide +kernel
theorem dX3_standingWith_17 : decode cX3_standingWith 17 = .ok (.if_icmp .ge 24, 3) := by decide +kernel
theorem dX3_standingWith_20 : decode cX3_standingWith 20 = .ok (.aload_n 0, 1) := by decide +kernel
theorem dX3_standingWith_21 : decode cX3_standingWith 21 = .ok (.aload_n 1, 1) := by decide +kernel
theorem dX3_standingWith_22 : decode cX3_standingWith 22 = .ok (.iload 6, 2) := by decide +kernel
theorem dX3_standingWith_24 : decode cX3_standingWith 24 = .ok (.iload 4, 2) := by decide +kernel
theorem dX3_standingWith_26 : decode cX3_standingWith 26 = .ok (.invokevirtual 54, 3) := by decide +kernel
theorem dX3_standingWith_29 : decode cX3_standingWith 29 = .ok (.ifCond .eq 6, 3) := by decide +kernel
theorem dX3_standingWith_32 : decode cX3_standingWith 32 = .ok (.iinc 5 1, 3) := by decide +kernel
theorem dX3_standingWith_35 : decode cX3_standingWith 35 = .ok (.iinc 6 1, 3) := by decide +kernel
theorem dX3_standingWith_38 : decode cX3_standingWith 38 = .ok (.goto (-25), 3) := by decide +kernel
theorem dX3_standingWith_41 : decode cX3_standingWith 41 = .ok (.iload 5, 2) := by decide +kernel
theorem dX3_standingWith_43 : decode cX3_standingWith 43 = .ok (.ireturn, 1) := by decide +kernel
theorem dX3_standingAt_0 : decode cX3_standingAt 0 = .ok (.iconst 0, 1) := by decide +kernel
theorem dX3_standingAt_1 : decode cX3_standingAt 1 = .ok (.istore_n 3, 1) := by decide +kernel
theorem dX3_standingAt_2 : decode cX3_standingAt 2 = .ok (.iconst 0, 1) := by decide +kernel
theorem dX3_standingAt_3 : decode cX3_standingAt 3 = .ok (.istore 4, 2) := by decide +kernel
theorem dX3_standingAt_5 : decode cX3_standingAt 5 = .ok (.iload 4, 2) := by decide +kernel
theorem dX3_standingAt_7 : decode cX3_standingAt 7 = .ok (.bipush 37, 2) := by decide +kernel
theorem dX3_standingAt_9 : decode cX3_standingAt 9 = .ok (.if_icmp .ge 30, 3) := by decide +kernel
theorem dX3_standingAt_12 : decode cX3_standingAt 12 = .ok (.aload_n 0, 1) := by decide +kernel
theorem dX3_standingAt_13 : decode cX3_standingAt 13 = .ok (.aload_n 1, 1) := by decide +kernel
theorem dX3_standingAt_14 : decode cX3_standingAt 14 = .ok (.iload 4, 2) := by decide +kernel
theorem dX3_standingAt_16 : decode cX3_standingAt 16 = .ok (.invokevirtual 50, 3) := by decide +kernel
theorem dX3_standingAt_19 : decode cX3_standingAt 19 = .ok (.ifCond .eq 14, 3) := by decide +kernel
theorem dX3_standingAt_22 : decode cX3_standingAt 22 = .ok (.iload_n 3, 1) := by decide +kernel
theorem dX3_standingAt_23 : decode cX3_standingAt 23 = .ok (.iload_n 2, 1) := by decide +kernel
theorem dX3_standingAt_24 : decode cX3_standingAt 24 = .ok (.if_icmp .ne 6, 3) := by decide +kernel
theorem dX3_standingAt_27 : decode cX3_standingAt 27 = .ok (.iload 4, 2) := by decide +kernel
theorem dX3_standingAt_29 : decode cX3_standingAt 29 = .ok (.ireturn, 1) := by decide +kernel
theorem dX3_standingAt_30 : decode cX3_standingAt 30 = .ok (.iinc 3 1, 3) := by decide +kernel
theorem dX3_standingAt_33 : decode cX3_standingAt 33 = .ok (.iinc 4 1, 3) := by decide +kernel
theorem dX3_standingAt_36 : decode cX3_standingAt 36 = .ok (.goto (-31), 3) := by decide +kernel
theorem dX3_standingAt_39 : decode cX3_standingAt 39 = .ok (.iconst (-1), 1) := by decide +kernel
theorem dX3_standingAt_40 : decode cX3_standingAt 40 = .ok (.ireturn, 1) := by decide +kernel
theorem dX3_product_0 : decode cX3_product 0 = .ok (.iload_n 2, 1) := by decide +kernel
theorem dX3_product_1 : decode cX3_product 1 = .ok (.invokestatic 25, 3) := by decide +kernel
theorem dX3_product_4 : decode cX3_product 4 = .ok (.istore 4, 2) := by decide +kernel
theorem dX3_product_6 : decode cX3_product 6 = .ok (.iload_n 2, 1) := by decide +kernel
theorem dX3_product_7 : decode cX3_product 7 = .ok (.iconst 5, 1) := by decide +kernel
theorem dX3_product_8 : decode cX3_product 8 = .ok (.imul, 1) := by decide +kernel
theorem dX3_product_9 : decode cX3_product 9 = .ok (.istore 5, 2) := by decide +kernel
theorem dX3_product_11 : decode cX3_product 11 = .ok (.lconst 1, 1) := by decide +kernel
theorem dX3_product_12 : decode cX3_product 12 = .ok (.lstore 6, 2) := by decide +kernel
theorem dX3_product_14 : decode cX3_product 14 = .ok (.aload_n 0, 1) := by decide +kernel
theorem dX3_product_15 : decode cX3_product 15 = .ok (.getfield 9, 3) := by decide +kernel
theorem dX3_product_18 : decode cX3_product 18 = .ok (.iload 5, 2) := by decide +kernel
theorem dX3_product_20 : decode cX3_product 20 = .ok (.iload 4, 2) := by decide +kernel
theorem dX3_product_22 : decode cX3_product 22 = .ok (.iadd, 1) := by decide +kernel
theorem dX3_product_23 : decode cX3_product 23 = .ok (.iconst 1, 1) := by decide +kernel
theorem dX3_product_24 : decode cX3_product 24 = .ok (.isub, 1) := by decide +kernel
theorem dX3_product_25 : decode cX3_product 25 = .ok (.invokestatic 32, 3) := by decide +kernel
theorem dX3_product_28 : decode cX3_product 28 = .ok (.istore 8, 2) := by decide +kernel
theorem dX3_product_30 : decode cX3_product 30 = .ok (.iconst 0, 1) := by decide +kernel
theorem dX3_product_31 : decode cX3_product 31 = .ok (.istore 9, 2) := by decide +kernel
theorem dX3_product_33 : decode cX3_product 33 = .ok (.iload 9, 2) := by decide +kernel
theorem dX3_product_35 : decode cX3_product 35 = .ok (.iload 4, 2) := by decide +kernel
theorem dX3_product_37 : decode cX3_product 37 = .ok (.if_icmp .ge 57, 3) := by decide +kernel
theorem dX3_product_40 : decode cX3_product 40 = .ok (.aload_n 0, 1) := by decide +kernel
theorem dX3_product_41 : decode cX3_product 41 = .ok (.getfield 9, 3) := by decide +kernel
theorem dX3_product_44 : decode cX3_product 44 = .ok (.iload 5, 2) := by decide +kernel
theorem dX3_product_46 : decode cX3_product 46 = .ok (.iload 9, 2) := by decide +kernel
theorem dX3_product_48 : decode cX3_product 48 = .ok (.iadd, 1) := by decide +kernel
theorem dX3_product_49 : decode cX3_product 49 = .ok (.invokestatic 32, 3) := by decide +kernel
theorem dX3_product_52 : decode cX3_product 52 = .ok (.istore 10, 2) := by decide +kernel
theorem dX3_product_54 : decode cX3_product 54 = .ok (.lload 6, 2) := by decide +kernel
theorem dX3_product_56 : decode cX3_product 56 = .ok (.iload_n 3, 1) := by decide +kernel
theorem dX3_product_57 : decode cX3_product 57 = .ok (.ifCond .eq 15, 3) := by decide +kernel
theorem dX3_product_60 : decode cX3_product 60 = .ok (.aload_n 1, 1) := by decide +kernel
theorem dX3_product_61 : decode cX3_product 61 = .ok (.iload 8, 2) := by decide +kernel
theorem dX3_product_63 : decode cX3_product 63 = .ok (.iload 10, 2) := by decide +kernel
theorem dX3_product_65 : decode cX3_product 65 = .ok (.invokevirtual 58, 3) := by decide +kernel
theorem dX3_product_68 : decode cX3_product 68 = .ok (.i2l, 1) := by decide +kernel
theorem dX3_product_69 : decode cX3_product 69 = .ok (.goto 12, 3) := by decide +kernel
theorem dX3_product_72 : decode cX3_product 72 = .ok (.aload_n 1, 1) := by decide +kernel
theorem dX3_product_73 : decode cX3_product 73 = .ok (.iload 10, 2) := by decide +kernel
theorem dX3_product_75 : decode cX3_product 75 = .ok (.iload 8, 2) := by decide +kernel
theorem dX3_product_77 : decode cX3_product 77 = .ok (.invokevirtual 58, 3) := by decide +kernel
theorem dX3_product_80 : decode cX3_product 80 = .ok (.i2l, 1) := by decide +kernel
theorem dX3_product_81 : decode cX3_product 81 = .ok (.lmul, 1) := by decide +kernel
theorem dX3_product_82 : decode cX3_product 82 = .ok (.lstore 6, 2) := by decide +kernel
theorem dX3_product_84 : decode cX3_product 84 = .ok (.iload 10, 2) := by decide +kernel
theorem dX3_product_86 : decode cX3_product 86 = .ok (.istore 8, 2) := by decide +kernel
theorem dX3_product_88 : decode cX3_product 88 = .ok (.iinc 9 1, 3) := by decide +kernel
theorem dX3_product_91 : decode cX3_product 91 = .ok (.goto (-58), 3) := by decide +kernel
theorem dX3_product_94 : decode cX3_product 94 = .ok (.lload 6, 2) := by decide +kernel
theorem dX3_product_96 : decode cX3_product 96 = .ok (.lreturn, 1) := by decide +kernel
theorem dX3_gain_0 : decode cX3_gain 0 = .ok (.aload_n 0, 1) := by decide +kernel
theorem dX3_gain_1 : decode cX3_gain 1 = .ok (.aload_n 1, 1) := by decide +kernel
theorem dX3_gain_2 : decode cX3_gain 2 = .ok (.iload_n 2, 1) := by decide +kernel
theorem dX3_gain_3 : decode cX3_gain 3 = .ok (.iconst 1, 1) := by decide +kernel
theorem dX3_gain_4 : decode cX3_gain 4 = .ok (.invokevirtual 61, 3) := by decide +kernel
theorem dX3_gain_7 : decode cX3_gain 7 = .ok (.lstore_n 3, 1) := by decide +kernel
theorem dX3_gain_8 : decode cX3_gain 8 = .ok (.aload_n 0, 1) := by decide +kernel
theorem dX3_gain_9 : decode cX3_gain 9 = .ok (.aload_n 1, 1) := by decide +kernel
theorem dX3_gain_10 : decode cX3_gain 10 = .ok (.iload_n 2, 1) := by decide +kernel
theorem dX3_gain_11 : decode cX3_gain 11 = .ok (.iconst 0, 1) := by decide +kernel
theorem dX3_gain_12 : decode cX3_gain 12 = .ok (.invokevirtual 61, 3) := by decide +kernel
theorem dX3_gain_15 : decode cX3_gain 15 = .ok (.lstore 5, 2) := by decide +kernel
theorem dX3_gain_17 : decode cX3_gain 17 = .ok (.lload 5, 2) := by decide +kernel
theorem dX3_gain_19 : decode cX3_gain 19 = .ok (.lconst 0, 1) := by decide +kernel
theorem dX3_gain_20 : decode cX3_gain 20 = .ok (.lcmp, 1) := by decide +kernel
theorem dX3_gain_21 : decode cX3_gain 21 = .ok (.ifCond .le 19, 3) := by decide +kernel
theorem dX3_gain_24 : decode cX3_gain 24 = .ok (.lload_n 3, 1) := by decide +kernel
theorem dX3_gain_25 : decode cX3_gain 25 = .ok (.lload 5, 2) := by decide +kernel
theorem dX3_gain_27 : decode cX3_gain 27 = .ok (.lsub, 1) := by decide +kernel
theorem dX3_gain_28 : decode cX3_gain 28 = .ok (.ldc2_w 65, 3) := by decide +kernel
theorem dX3_gain_31 : decode cX3_gain 31 = .ok (.lmul, 1) := by decide +kernel
theorem dX3_gain_32 : decode cX3_gain 32 = .ok (.lload 5, 2) := by decide +kernel
theorem dX3_gain_34 : decode cX3_gain 34 = .ok (.invokestatic 67, 3) := by decide +kernel
theorem dX3_gain_37 : decode cX3_gain 37 = .ok (.goto 4, 3) := by decide +kernel
theorem dX3_gain_40 : decode cX3_gain 40 = .ok (.lconst 0, 1) := by decide +kernel
theorem dX3_gain_41 : decode cX3_gain 41 = .ok (.lreturn, 1) := by decide +kernel
theorem dX3_isOff_0 : decode cX3_isOff 0 = .ok (.aload_n 0, 1) := by decide +kernel
theorem dX3_isOff_1 : decode cX3_isOff 1 = .ok (.aload_n 1, 1) := by decide +kernel
theorem dX3_isOff_2 : decode cX3_isOff 2 = .ok (.iload_n 2, 1) := by decide +kernel
theorem dX3_isOff_3 : decode cX3_isOff 3 = .ok (.invokevirtual 73, 3) := by decide +kernel
theorem dX3_isOff_6 : decode cX3_isOff 6 = .ok (.invokestatic 77, 3) := by decide +kernel
theorem dX3_isOff_9 : decode cX3_isOff 9 = .ok (.iload_n 3, 1) := by decide +kernel
theorem dX3_isOff_10 : decode cX3_isOff 10 = .ok (.i2l, 1) := by decide +kernel
theorem dX3_isOff_11 : decode cX3_isOff 11 = .ok (.lcmp, 1) := by decide +kernel
theorem dX3_isOff_12 : decode cX3_isOff 12 = .ok (.ifCond .le 7, 3) := by decide +kernel
theorem dX3_isOff_15 : decode cX3_isOff 15 = .ok (.iconst 1, 1) := by decide +kernel
theorem dX3_isOff_16 : decode cX3_isOff 16 = .ok (.goto 4, 3) := by decide +kernel
theorem dX3_isOff_19 : decode cX3_isOff 19 = .ok (.iconst 0, 1) := by decide +kernel
theorem dX3_isOff_20 : decode cX3_isOff 20 = .ok (.ireturn, 1) := by decide +kernel
theorem dX3_off_0 : decode cX3_off 0 = .ok (.iconst 0, 1) := by decide +kernel
theorem dX3_off_1 : decode cX3_off 1 = .ok (.istore_n 3, 1) := by decide +kernel
theorem dX3_off_2 : decode cX3_off 2 = .ok (.iconst 0, 1) := by decide +kernel
theorem dX3_off_3 : decode cX3_off 3 = .ok (.istore 4, 2) := by decide +kernel
theorem dX3_off_5 : decode cX3_off 5 = .ok (.iload 4, 2) := by decide +kernel
theorem dX3_off_7 : decode cX3_off 7 = .ok (.bipush 37, 2) := by decide +kernel
theorem dX3_off_9 : decode cX3_off 9 = .ok (.if_icmp .ge 33, 3) := by decide +kernel
theorem dX3_off_12 : decode cX3_off 12 = .ok (.aload_n 0, 1) := by decide +kernel
theorem dX3_off_13 : decode cX3_off 13 = .ok (.aload_n 1, 1) := by decide +kernel
theorem dX3_off_14 : decode cX3_off 14 = .ok (.iload 4, 2) := by decide +kernel
theorem dX3_off_16 : decode cX3_off 16 = .ok (.invokevirtual 50, 3) := by decide +kernel
theorem dX3_off_19 : decode cX3_off 19 = .ok (.ifCond .eq 17, 3) := by decide +kernel
theorem dX3_off_22 : decode cX3_off 22 = .ok (.aload_n 0, 1) := by decide +kernel
theorem dX3_off_23 : decode cX3_off 23 = .ok (.aload_n 1, 1) := by decide +kernel
theorem dX3_off_24 : decode cX3_off 24 = .ok (.iload 4, 2) := by decide +kernel
theorem dX3_off_26 : decode cX3_off 26 = .ok (.iload_n 2, 1) := by decide +kernel
theorem dX3_off_27 : decode cX3_off 27 = .ok (.invokevirtual 81, 3) := by decide +kernel
theorem dX3_off_30 : decode cX3_off 30 = .ok (.ifCond .eq 6, 3) := by decide +kernel
theorem dX3_off_33 : decode cX3_off 33 = .ok (.iinc 3 1, 3) := by decide +kernel
theorem dX3_off_36 : decode cX3_off 36 = .ok (.iinc 4 1, 3) := by decide +kernel
theorem dX3_off_39 : decode cX3_off 39 = .ok (.goto (-34), 3) := by decide +kernel
theorem dX3_off_42 : decode cX3_off 42 = .ok (.iload_n 3, 1) := by decide +kernel
theorem dX3_off_43 : decode cX3_off 43 = .ok (.ireturn, 1) := by decide +kernel
theorem dX3_firstOffBy_0 : decode cX3_firstOffBy 0 = .ok (.aload_n 0, 1) := by decide +kernel
theorem dX3_firstOffBy_1 : decode cX3_firstOffBy 1 = .ok (.getfield 21, 3) := by decide +kernel
theorem dX3_firstOffBy_4 : decode cX3_firstOffBy 4 = .ok (.aload_n 1, 1) := by decide +kernel
theorem dX3_firstOffBy_5 : decode cX3_firstOffBy 5 = .ok (.invokevirtual 84, 3) := by decide +kernel
theorem dX3_firstOffBy_8 : decode cX3_firstOffBy 8 = .ok (.aload_n 0, 1) := by decide +kernel
theorem dX3_firstOffBy_9 : decode cX3_firstOffBy 9 = .ok (.getfield 21, 3) := by decide +kernel
theorem dX3_firstOffBy_12 : decode cX3_firstOffBy 12 = .ok (.iload_n 2, 1) := by decide +kernel
theorem dX3_firstOffBy_13 : decode cX3_firstOffBy 13 = .ok (.iload_n 3, 1) := by decide +kernel
theorem dX3_firstOffBy_14 : decode cX3_firstOffBy 14 = .ok (.iload 4, 2) := by decide +kernel
theorem dX3_firstOffBy_16 : decode cX3_firstOffBy 16 = .ok (.iload 5, 2) := by decide +kernel
theorem dX3_firstOffBy_18 : decode cX3_firstOffBy 18 = .ok (.invokevirtual 88, 3) := by decide +kernel
theorem dX3_firstOffBy_21 : decode cX3_firstOffBy 21 = .ok (.iload_n 2, 1) := by decide +kernel
theorem dX3_firstOffBy_22 : decode cX3_firstOffBy 22 = .ok (.iload_n 3, 1) := by decide +kernel
theorem dX3_firstOffBy_23 : decode cX3_firstOffBy 23 = .ok (.invokestatic 44, 3) := by decide +kernel
theorem dX3_firstOffBy_26 : decode cX3_firstOffBy 26 = .ok (.istore 7, 2) := by decide +kernel
theorem dX3_firstOffBy_28 : decode cX3_firstOffBy 28 = .ok (.iconst 0, 1) := by decide +kernel
theorem dX3_firstOffBy_29 : decode cX3_firstOffBy 29 = .ok (.istore 8, 2) := by decide +kernel
theorem dX3_firstOffBy_31 : decode cX3_firstOffBy 31 = .ok (.iload 8, 2) := by decide +kernel
theorem dX3_firstOffBy_33 : decode cX3_firstOffBy 33 = .ok (.bipush 37, 2) := by decide +kernel
theorem dX3_firstOffBy_35 : decode cX3_firstOffBy 35 = .ok (.if_icmp .ge 47, 3) := by decide +kernel
theorem dX3_firstOffBy_38 : decode cX3_firstOffBy 38 = .ok (.aload_n 0, 1) := by decide +kernel
theorem dX3_firstOffBy_39 : decode cX3_firstOffBy 39 = .ok (.aload_n 0, 1) := by decide +kernel
theorem dX3_firstOffBy_40 : decode cX3_firstOffBy 40 = .ok (.getfield 21, 3) := by decide +kernel
theorem dX3_firstOffBy_43 : decode cX3_firstOffBy 43 = .ok (.iload 8, 2) := by decide +kernel
theorem dX3_firstOffBy_45 : decode cX3_firstOffBy 45 = .ok (.iload 7, 2) := by decide +kernel
theorem dX3_firstOffBy_47 : decode cX3_firstOffBy 47 = .ok (.invokevirtual 54, 3) := by decide +kernel
theorem dX3_firstOffBy_50 : decode cX3_firstOffBy 50 = .ok (.ifCond .eq 26, 3) := by decide +kernel
theorem dX3_firstOffBy_53 : decode cX3_firstOffBy 53 = .ok (.aload_n 0, 1) := by decide +kernel
theorem dX3_firstOffBy_54 : decode cX3_firstOffBy 54 = .ok (.aload_n 0, 1) := by decide +kernel
theorem dX3_firstOffBy_55 : decode cX3_firstOffBy 55 = .ok (.getfield 21, 3) := by decide +kernel
theorem dX3_firstOffBy_58 : decode cX3_firstOffBy 58 = .ok (.iload 8, 2) := by decide +kernel
theorem dX3_firstOffBy_60 : decode cX3_firstOffBy 60 = .ok (.invokevirtual 73, 3) := by decide +kernel
theorem dX3_firstOffBy_63 : decode cX3_firstOffBy 63 = .ok (.invokestatic 77, 3) := by decide +kernel
theorem dX3_firstOffBy_66 : decode cX3_firstOffBy 66 = .ok (.iload 6, 2) := by decide +kernel
theorem dX3_firstOffBy_68 : decode cX3_firstOffBy 68 = .ok (.i2l, 1) := by decide +kernel
theorem dX3_firstOffBy_69 : decode cX3_firstOffBy 69 = .ok (.lcmp, 1) := by decide +kernel
theorem dX3_firstOffBy_70 : decode cX3_firstOffBy 70 = .ok (.ifCond .le 6, 3) := by decide +kernel
theorem dX3_firstOffBy_73 : decode cX3_firstOffBy 73 = .ok (.iload 8, 2) := by decide +kernel
theorem dX3_firstOffBy_75 : decode cX3_firstOffBy 75 = .ok (.ireturn, 1) := by decide +kernel
theorem dX3_firstOffBy_76 : decode cX3_firstOffBy 76 = .ok (.iinc 8 1, 3) := by decide +kernel
theorem dX3_firstOffBy_79 : decode cX3_firstOffBy 79 = .ok (.goto (-48), 3) := by decide +kernel
theorem dX3_firstOffBy_82 : decode cX3_firstOffBy 82 = .ok (.iconst (-1), 1) := by decide +kernel
theorem dX3_firstOffBy_83 : decode cX3_firstOffBy 83 = .ok (.ireturn, 1) := by decide +kernel
theorem dX3_areSound_0 : decode cX3_areSound 0 = .ok (.iconst 0, 1) := by decide +kernel
theorem dX3_areSound_1 : decode cX3_areSound 1 = .ok (.istore_n 2, 1) := by decide +kernel
theorem dX3_areSound_2 : decode cX3_areSound 2 = .ok (.iload_n 2, 1) := by decide +kernel
theorem dX3_areSound_3 : decode cX3_areSound 3 = .ok (.bipush 37, 2) := by decide +kernel
theorem dX3_areSound_5 : decode cX3_areSound 5 = .ok (.if_icmp .ge 38, 3) := by decide +kernel
theorem dX3_areSound_8 : decode cX3_areSound 8 = .ok (.aload_n 0, 1) := by decide +kernel
theorem dX3_areSound_9 : decode cX3_areSound 9 = .ok (.aload_n 1, 1) := by decide +kernel
theorem dX3_areSound_10 : decode cX3_areSound 10 = .ok (.iload_n 2, 1) := by decide +kernel
theorem dX3_areSound_11 : decode cX3_areSound 11 = .ok (.invokevirtual 50, 3) := by decide +kernel
theorem dX3_areSound_14 : decode cX3_areSound 14 = .ok (.ifCond .eq 23, 3) := by decide +kernel
theorem dX3_areSound_17 : decode cX3_areSound 17 = .ok (.aload_n 0, 1) := by decide +kernel
theorem dX3_areSound_18 : decode cX3_areSound 18 = .ok (.aload_n 1, 1) := by decide +kernel
theorem dX3_areSound_19 : decode cX3_areSound 19 = .ok (.iload_n 2, 1) := by decide +kernel
theorem dX3_areSound_20 : decode cX3_areSound 20 = .ok (.iconst 1, 1) := by decide +kernel
theorem dX3_areSound_21 : decode cX3_areSound 21 = .ok (.invokevirtual 61, 3) := by decide +kernel
theorem dX3_areSound_24 : decode cX3_areSound 24 = .ok (.aload_n 0, 1) := by decide +kernel
theorem dX3_areSound_25 : decode cX3_areSound 25 = .ok (.aload_n 1, 1) := by decide +kernel
theorem dX3_areSound_26 : decode cX3_areSound 26 = .ok (.iload_n 2, 1) := by decide +kernel
theorem dX3_areSound_27 : decode cX3_areSound 27 = .ok (.iconst 0, 1) := by decide +kernel
theorem dX3_areSound_28 : decode cX3_areSound 28 = .ok (.invokevirtual 61, 3) := by decide +kernel
theorem dX3_areSound_31 : decode cX3_areSound 31 = .ok (.lcmp, 1) := by decide +kernel
theorem dX3_areSound_32 : decode cX3_areSound 32 = .ok (.ifCond .eq 5, 3) := by decide +kernel
theorem dX3_areSound_35 : decode cX3_areSound 35 = .ok (.iconst 0, 1) := by decide +kernel
theorem dX3_areSound_36 : decode cX3_areSound 36 = .ok (.ireturn, 1) := by decide +kernel
theorem dX3_areSound_37 : decode cX3_areSound 37 = .ok (.iinc 2 1, 3) := by decide +kernel
theorem dX3_areSound_40 : decode cX3_areSound 40 = .ok (.goto (-38), 3) := by decide +kernel
theorem dX3_areSound_43 : decode cX3_areSound 43 = .ok (.iconst 1, 1) := by decide +kernel
theorem dX3_areSound_44 : decode cX3_areSound 44 = .ok (.ireturn, 1) := by decide +kernel
theorem dX4_init_0 : decode cX4_init 0 = .ok (.aload_n 0, 1) := by decide +kernel
theorem dX4_init_1 : decode cX4_init 1 = .ok (.invokespecial 3, 3) := by decide +kernel
theorem dX4_init_4 : decode cX4_init 4 = .ok (.aload_n 0, 1) := by decide +kernel
theorem dX4_init_5 : decode cX4_init 5 = .ok (.bipush 25, 2) := by decide +kernel
theorem dX4_init_7 : decode cX4_init 7 = .ok (.newarray .int, 2) := by decide +kernel
theorem dX4_init_9 : decode cX4_init 9 = .ok (.putfield 9, 3) := by decide +kernel
theorem dX4_init_12 : decode cX4_init 12 = .ok (.aload_n 0, 1) := by decide +kernel
theorem dX4_init_13 : decode cX4_init 13 = .ok (.iconst 0, 1) := by decide +kernel
theorem dX4_init_14 : decode cX4_init 14 = .ok (.putfield 15, 3) := by decide +kernel
theorem dX4_init_17 : decode cX4_init 17 = .ok (.return_, 1) := by decide +kernel
theorem dX4_copy_0 : decode cX4_copy 0 = .ok (.aload_n 1, 1) := by decide +kernel
theorem dX4_copy_1 : decode cX4_copy 1 = .ok (.getfield 9, 3) := by decide +kernel
theorem dX4_copy_4 : decode cX4_copy 4 = .ok (.aload_n 0, 1) := by decide +kernel
theorem dX4_copy_5 : decode cX4_copy 5 = .ok (.getfield 9, 3) := by decide +kernel
theorem dX4_copy_8 : decode cX4_copy 8 = .ok (.invokestatic 19, 3) := by decide +kernel
theorem dX4_copy_11 : decode cX4_copy 11 = .ok (.aload_n 0, 1) := by decide +kernel
theorem dX4_copy_12 : decode cX4_copy 12 = .ok (.aload_n 1, 1) := by decide +kernel
theorem dX4_copy_13 : decode cX4_copy 13 = .ok (.getfield 15, 3) := by decide +kernel
theorem dX4_copy_16 : decode cX4_copy 16 = .ok (.putfield 15, 3) := by decide +kernel
theorem dX4_copy_19 : decode cX4_copy 19 = .ok (.return_, 1) := by decide +kernel
theorem dX4_up_0 : decode cX4_up 0 = .ok (.iload_n 1, 1) := by decide +kernel
theorem dX4_up_1 : decode cX4_up 1 = .ok (.ifCond .lt 17, 3) := by decide +kernel
theorem dX4_up_4 : decode cX4_up 4 = .ok (.iload_n 1, 1) := by decide +kernel
theorem dX4_up_5 : decode cX4_up 5 = .ok (.iconst 5, 1) := by decide +kernel
theorem dX4_up_6 : decode cX4_up 6 = .ok (.if_icmp .ge 12, 3) := by decide +kernel
theorem dX4_up_9 : decode cX4_up 9 = .ok (.iload_n 2, 1) := by decide +kernel
theorem dX4_up_10 : decode cX4_up 10 = .ok (.ifCond .lt 8, 3) := by decide +kernel
theorem dX4_up_13 : decode cX4_up 13 = .ok (.iload_n 2, 1) := by decide +kernel
theorem dX4_up_14 : decode cX4_up 14 = .ok (.iconst 5, 1) := by decide +kernel
theorem dX4_up_15 : decode cX4_up 15 = .ok (.if_icmp .lt 5, 3) := by decide +kernel
theorem dX4_up_18 : decode cX4_up 18 = .ok (.iconst 0, 1) := by decide +kernel
theorem dX4_up_19 : decode cX4_up 19 = .ok (.ireturn, 1) := by decide +kernel
theorem dX4_up_20 : decode cX4_up 20 = .ok (.iload_n 1, 1) := by decide +kernel
theorem dX4_up_21 : decode cX4_up 21 = .ok (.iconst 5, 1) := by decide +kernel
theorem dX4_up_22 : decode cX4_up 22 = .ok (.imul, 1) := by decide +kernel
theorem dX4_up_23 : decode cX4_up 23 = .ok (.iload_n 2, 1) := by decide +kernel
theorem dX4_up_24 : decode cX4_up 24 = .ok (.iadd, 1) := by decide +kernel
theorem dX4_up_25 : decode cX4_up 25 = .ok (.istore_n 3, 1) := by decide +kernel
theorem dX4_up_26 : decode cX4_up 26 = .ok (.iload_n 3, 1) := by decide +kernel
theorem dX4_up_27 : decode cX4_up 27 = .ok (.ifCond .lt 21, 3) := by decide +kernel
theorem dX4_up_30 : decode cX4_up 30 = .ok (.iload_n 3, 1) := by decide +kernel
theorem dX4_up_31 : decode cX4_up 31 = .ok (.aload_n 0, 1) := by decide +kernel
theorem dX4_up_32 : decode cX4_up 32 = .ok (.getfield 9, 3) := by decide +kernel
theorem dX4_up_35 : decode cX4_up 35 = .ok (.arraylength, 1) := by decide +kernel
theorem dX4_up_36 : decode cX4_up 36 = .ok (.if_icmp .ge 12, 3) := by decide +kernel
theorem dX4_up_39 : decode cX4_up 39 = .ok (.aload_n 0, 1) := by decide +kernel
theorem dX4_up_40 : decode cX4_up 40 = .ok (.getfield 9, 3) := by decide +kernel
theorem dX4_up_43 : decode cX4_up 43 = .ok (.iload_n 3, 1) := by decide +kernel
theorem dX4_up_44 : decode cX4_up 44 = .ok (.iaload, 1) := by decide +kernel
theorem dX4_up_45 : decode cX4_up 45 = .ok (.goto 4, 3) := by decide +kernel
theorem dX4_up_48 : decode cX4_up 48 = .ok (.iconst 0, 1) := by decide +kernel
theorem dX4_up_49 : decode cX4_up 49 = .ok (.ireturn, 1) := by decide +kernel
theorem dX4_has_0 : decode cX4_has 0 = .ok (.aload_n 0, 1) := by decide +kernel
theorem dX4_has_1 : decode cX4_has 1 = .ok (.iload_n 1, 1) := by decide +kernel
theorem dX4_has_2 : decode cX4_has 2 = .ok (.iload_n 2, 1) := by decide +kernel
theorem dX4_has_3 : decode cX4_has 3 = .ok (.invokevirtual 23, 3) := by decide +kernel
theorem dX4_has_6 : decode cX4_has 6 = .ok (.ifCond .le 7, 3) := by decide +kernel
theorem dX4_has_9 : decode cX4_has 9 = .ok (.iconst 1, 1) := by decide +kernel
theorem dX4_has_10 : decode cX4_has 10 = .ok (.goto 4, 3) := by decide +kernel
theorem dX4_has_13 : decode cX4_has 13 = .ok (.iconst 0, 1) := by decide +kernel
theorem dX4_has_14 : decode cX4_has 14 = .ok (.ireturn, 1) := by decide +kernel
theorem dX4_size_0 : decode cX4_size 0 = .ok (.aload_n 0, 1) := by decide +kernel
theorem dX4_size_1 : decode cX4_size 1 = .ok (.getfield 15, 3) := by decide +kernel
theorem dX4_size_4 : decode cX4_size 4 = .ok (.invokestatic 27, 3) := by decide +kernel
theorem dX4_size_7 : decode cX4_size 7 = .ok (.ireturn, 1) := by decide +kernel
theorem dX4_lay_0 : decode cX4_lay 0 = .ok (.iload_n 1, 1) := by decide +kernel
theorem dX4_lay_1 : decode cX4_lay 1 = .ok (.invokestatic 33, 3) := by decide +kernel
theorem dX4_lay_4 : decode cX4_lay 4 = .ok (.ifCond .eq 15, 3) := by decide +kernel
theorem dX4_lay_7 : decode cX4_lay 7 = .ok (.iload_n 2, 1) := by decide +kernel
theorem dX4_lay_8 : decode cX4_lay 8 = .ok (.invokestatic 33, 3) := by decide +kernel
theorem dX4_lay_11 : decode cX4_lay 11 = .ok (.ifCond .eq 8, 3) := by decide +kernel
theorem dX4_lay_14 : decode cX4_lay 14 = .ok (.iload_n 1, 1) := by decide +kernel
theorem dX4_lay_15 : decode cX4_lay 15 = .ok (.iload_n 2, 1) := by decide +kernel
theorem dX4_lay_16 : decode cX4_lay 16 = .ok (.if_icmp .ne 4, 3) := by decide +kernel
theorem dX4_lay_19 : decode cX4_lay 19 = .ok (.return_, 1) := by decide +kernel
theorem dX4_lay_20 : decode cX4_lay 20 = .ok (.aload_n 0, 1) := by decide +kernel
theorem dX4_lay_21 : decode cX4_lay 21 = .ok (.getfield 9, 3) := by decide +kernel
theorem dX4_lay_24 : decode cX4_lay 24 = .ok (.iload_n 1, 1) := by decide +kernel
theorem dX4_lay_25 : decode cX4_lay 25 = .ok (.iconst 5, 1) := by decide +kernel
theorem dX4_lay_26 : decode cX4_lay 26 = .ok (.imul, 1) := by decide +kernel
theorem dX4_lay_27 : decode cX4_lay 27 = .ok (.iload_n 2, 1) := by decide +kernel
theorem dX4_lay_28 : decode cX4_lay 28 = .ok (.iadd, 1) := by decide +kernel
theorem dX4_lay_29 : decode cX4_lay 29 = .ok (.iload_n 3, 1) := by decide +kernel
theorem dX4_lay_30 : decode cX4_lay 30 = .ok (.invokestatic 37, 3) := by decide +kernel
theorem dX4_lay_33 : decode cX4_lay 33 = .ok (.aload_n 0, 1) := by decide +kernel
theorem dX4_lay_34 : decode cX4_lay 34 = .ok (.getfield 9, 3) := by decide +kernel
theorem dX4_lay_37 : decode cX4_lay 37 = .ok (.iload_n 2, 1) := by decide +kernel
theorem dX4_lay_38 : decode cX4_lay 38 = .ok (.iconst 5, 1) := by decide +kernel
theorem dX4_lay_39 : decode cX4_lay 39 = .ok (.imul, 1) := by decide +kernel
theorem dX4_lay_40 : decode cX4_lay 40 = .ok (.iload_n 1, 1) := by decide +kernel
theorem dX4_lay_41 : decode cX4_lay 41 = .ok (.iadd, 1) := by decide +kernel
theorem dX4_lay_42 : decode cX4_lay 42 = .ok (.iload 4, 2) := by decide +kernel
theorem dX4_lay_44 : decode cX4_lay 44 = .ok (.invokestatic 37, 3) := by decide +kernel
theorem dX4_lay_47 : decode cX4_lay 47 = .ok (.iload_n 1, 1) := by decide +kernel
theorem dX4_lay_48 : decode cX4_lay 48 = .ok (.iload_n 2, 1) := by decide +kernel
theorem dX4_lay_49 : decode cX4_lay 49 = .ok (.invokestatic 41, 3) := by decide +kernel
theorem dX4_lay_52 : decode cX4_lay 52 = .ok (.istore 5, 2) := by decide +kernel
theorem dX4_lay_54 : decode cX4_lay 54 = .ok (.aload_n 0, 1) := by decide +kernel
theorem dX4_lay_55 : decode cX4_lay 55 = .ok (.iload_n 3, 1) := by decide +kernel
theorem dX4_lay_56 : decode cX4_lay 56 = .ok (.ifCond .le 13, 3) := by decide +kernel
theorem dX4_lay_59 : decode cX4_lay 59 = .ok (.aload_n 0, 1) := by decide +kernel
theorem dX4_lay_60 : decode cX4_lay 60 = .ok (.getfield 15, 3) := by decide +kernel
theorem dX4_lay_63 : decode cX4_lay 63 = .ok (.iload 5, 2) := by decide +kernel
theorem dX4_lay_65 : decode cX4_lay 65 = .ok (.ior, 1) := by decide +kernel
theorem dX4_lay_66 : decode cX4_lay 66 = .ok (.goto 12, 3) := by decide +kernel
theorem dX4_lay_69 : decode cX4_lay 69 = .ok (.aload_n 0, 1) := by decide +kernel
theorem dX4_lay_70 : decode cX4_lay 70 = .ok (.getfield 15, 3) := by decide +kernel
theorem dX4_lay_73 : decode cX4_lay 73 = .ok (.iload 5, 2) := by decide +kernel
theorem dX4_lay_75 : decode cX4_lay 75 = .ok (.iconst (-1), 1) := by decide +kernel
theorem dX4_lay_76 : decode cX4_lay 76 = .ok (.ixor, 1) := by decide +kernel
theorem dX4_lay_77 : decode cX4_lay 77 = .ok (.iand, 1) := by decide +kernel
theorem dX4_lay_78 : decode cX4_lay 78 = .ok (.putfield 15, 3) := by decide +kernel
theorem dX4_lay_81 : decode cX4_lay 81 = .ok (.return_, 1) := by decide +kernel
theorem dX5_init_0 : decode cX5_init 0 = .ok (.aload_n 0, 1) := by decide +kernel
theorem dX5_init_1 : decode cX5_init 1 = .ok (.invokespecial 3, 3) := by decide +kernel
theorem dX5_init_4 : decode cX5_init 4 = .ok (.aload_n 0, 1) := by decide +kernel
theorem dX5_init_5 : decode cX5_init 5 = .ok (.bipush 60, 2) := by decide +kernel
theorem dX5_init_7 : decode cX5_init 7 = .ok (.newarray .int, 2) := by decide +kernel
theorem dX5_init_9 : decode cX5_init 9 = .ok (.putfield 9, 3) := by decide +kernel
theorem dX5_init_12 : decode cX5_init 12 = .ok (.aload_n 0, 1) := by decide +kernel
theorem dX5_init_13 : decode cX5_init 13 = .ok (.iconst 0, 1) := by decide +kernel
theorem dX5_init_14 : decode cX5_init 14 = .ok (.putfield 15, 3) := by decide +kernel
theorem dX5_init_17 : decode cX5_init 17 = .ok (.aload_n 0, 1) := by decide +kernel
theorem dX5_init_18 : decode cX5_init 18 = .ok (.iconst 0, 1) := by decide +kernel
theorem dX5_init_19 : decode cX5_init 19 = .ok (.putfield 19, 3) := by decide +kernel
theorem dX5_init_22 : decode cX5_init 22 = .ok (.return_, 1) := by decide +kernel
theorem dX5_add_0 : decode cX5_add 0 = .ok (.aload_n 0, 1) := by decide +kernel
theorem dX5_add_1 : decode cX5_add 1 = .ok (.getfield 15, 3) := by decide +kernel
theorem dX5_add_4 : decode cX5_add 4 = .ok (.bipush 60, 2) := by decide +kernel
theorem dX5_add_6 : decode cX5_add 6 = .ok (.if_icmp .ge 25, 3) := by decide +kernel
theorem dX5_add_9 : decode cX5_add 9 = .ok (.aload_n 0, 1) := by decide +kernel
theorem dX5_add_10 : decode cX5_add 10 = .ok (.getfield 9, 3) := by decide +kernel
theorem dX5_add_13 : decode cX5_add 13 = .ok (.aload_n 0, 1) := by decide +kernel
theorem dX5_add_14 : decode cX5_add 14 = .ok (.getfield 15, 3) := by decide +kernel
theorem dX5_add_17 : decode cX5_add 17 = .ok (.iload_n 1, 1) := by decide +kernel
theorem dX5_add_18 : decode cX5_add 18 = .ok (.invokestatic 22, 3) := by decide +kernel
theorem dX5_add_21 : decode cX5_add 21 = .ok (.aload_n 0, 1) := by decide +kernel
theorem dX5_add_22 : decode cX5_add 22 = .ok (.dup, 1) := by decide +kernel
theorem dX5_add_23 : decode cX5_add 23 = .ok (.getfield 15, 3) := by decide +kernel
theorem dX5_add_26 : decode cX5_add 26 = .ok (.iconst 1, 1) := by decide +kernel
theorem dX5_add_27 : decode cX5_add 27 = .ok (.iadd, 1) := by decide +kernel
theorem dX5_add_28 : decode cX5_add 28 = .ok (.putfield 15, 3) := by decide +kernel
theorem dX5_add_31 : decode cX5_add 31 = .ok (.return_, 1) := by decide +kernel
theorem dX5_empty_0 : decode cX5_empty 0 = .ok (.aload_n 0, 1) := by decide +kernel
theorem dX5_empty_1 : decode cX5_empty 1 = .ok (.getfield 15, 3) := by decide +kernel
theorem dX5_empty_4 : decode cX5_empty 4 = .ok (.istore_n 1, 1) := by decide +kernel
theorem dX5_empty_5 : decode cX5_empty 5 = .ok (.aload_n 0, 1) := by decide +kernel
theorem dX5_empty_6 : decode cX5_empty 6 = .ok (.iconst 0, 1) := by decide +kernel
theorem dX5_empty_7 : decode cX5_empty 7 = .ok (.putfield 15, 3) := by decide +kernel
theorem dX5_empty_10 : decode cX5_empty 10 = .ok (.iload_n 1, 1) := by decide +kernel
theorem dX5_empty_11 : decode cX5_empty 11 = .ok (.ireturn, 1) := by decide +kernel
theorem dX5_read_0 : decode cX5_read 0 = .ok (.aload_n 0, 1) := by decide +kernel
theorem dX5_read_1 : decode cX5_read 1 = .ok (.iconst 0, 1) := by decide +kernel
theorem dX5_read_2 : decode cX5_read 2 = .ok (.putfield 19, 3) := by decide +kernel
theorem dX5_read_5 : decode cX5_read 5 = .ok (.iconst 0, 1) := by decide +kernel
theorem dX5_read_6 : decode cX5_read 6 = .ok (.istore_n 1, 1) := by decide +kernel
theorem dX5_read_7 : decode cX5_read 7 = .ok (.iload_n 1, 1) := by decide +kernel
theorem dX5_read_8 : decode cX5_read 8 = .ok (.aload_n 0, 1) := by decide +kernel
theorem dX5_read_9 : decode cX5_read 9 = .ok (.getfield 15, 3) := by decide +kernel
theorem dX5_read_12 : decode cX5_read 12 = .ok (.if_icmp .ge 38, 3) := by decide +kernel
theorem dX5_read_15 : decode cX5_read 15 = .ok (.aload_n 0, 1) := by decide +kernel
theorem dX5_read_16 : decode cX5_read 16 = .ok (.aload_n 0, 1) := by decide +kernel
theorem dX5_read_17 : decode cX5_read 17 = .ok (.getfield 19, 3) := by decide +kernel
theorem dX5_read_20 : decode cX5_read 20 = .ok (.aload_n 0, 1) := by decide +kernel
theorem dX5_read_21 : decode cX5_read 21 = .ok (.getfield 9, 3) := by decide +kernel
theorem dX5_read_24 : decode cX5_read 24 = .ok (.iload_n 1, 1) := by decide +kernel
theorem dX5_read_25 : decode cX5_read 25 = .ok (.invokestatic 26, 3) := by decide +kernel
theorem dX5_read_28 : decode cX5_read 28 = .ok (.invokestatic 30, 3) := by decide +kernel
theorem dX5_read_31 : decode cX5_read 31 = .ok (.putfield 19, 3) := by decide +kernel
theorem dX5_read_34 : decode cX5_read 34 = .ok (.aload_n 0, 1) := by decide +kernel
theorem dX5_read_35 : decode cX5_read 35 = .ok (.getfield 19, 3) := by decide +kernel
theorem dX5_read_38 : decode cX5_read 38 = .ok (.iconst (-1), 1) := by decide +kernel
theorem dX5_read_39 : decode cX5_read 39 = .ok (.if_icmp .ne 5, 3) := by decide +kernel
theorem dX5_read_42 : decode cX5_read 42 = .ok (.iload_n 1, 1) := by decide +kernel
theorem dX5_read_43 : decode cX5_read 43 = .ok (.ireturn, 1) := by decide +kernel
theorem dX5_read_44 : decode cX5_read 44 = .ok (.iinc 1 1, 3) := by decide +kernel
theorem dX5_read_47 : decode cX5_read 47 = .ok (.goto (-40), 3) := by decide +kernel
theorem dX5_read_50 : decode cX5_read 50 = .ok (.aload_n 0, 1) := by decide +kernel
theorem dX5_read_51 : decode cX5_read 51 = .ok (.getfield 15, 3) := by decide +kernel
theorem dX5_read_54 : decode cX5_read 54 = .ok (.ireturn, 1) := by decide +kernel
theorem dX5_isComplete_0 : decode cX5_isComplete 0 = .ok (.aload_n 0, 1) := by decide +kernel
theorem dX5_isComplete_1 : decode cX5_isComplete 1 = .ok (.invokevirtual 34, 3) := by decide +kernel
theorem dX5_isComplete_4 : decode cX5_isComplete 4 = .ok (.aload_n 0, 1) := by decide +kernel
theorem dX5_isComplete_5 : decode cX5_isComplete 5 = .ok (.getfield 15, 3) := by decide +kernel
theorem dX5_isComplete_8 : decode cX5_isComplete 8 = .ok (.if_icmp .ne 17, 3) := by decide +kernel
theorem dX5_isComplete_11 : decode cX5_isComplete 11 = .ok (.aload_n 0, 1) := by decide +kernel
theorem dX5_isComplete_12 : decode cX5_isComplete 12 = .ok (.getfield 19, 3) := by decide +kernel
theorem dX5_isComplete_15 : decode cX5_isComplete 15 = .ok (.invokestatic 38, 3) := by decide +kernel
theorem dX5_isComplete_18 : decode cX5_isComplete 18 = .ok (.ifCond .eq 7, 3) := by decide +kernel
theorem dX5_isComplete_21 : decode cX5_isComplete 21 = .ok (.iconst 1, 1) := by decide +kernel
theorem dX5_isComplete_22 : decode cX5_isComplete 22 = .ok (.goto 4, 3) := by decide +kernel
theorem dX5_isComplete_25 : decode cX5_isComplete 25 = .ok (.iconst 0, 1) := by decide +kernel
theorem dX5_isComplete_26 : decode cX5_isComplete 26 = .ok (.ireturn, 1) := by decide +kernel
theorem dX5_mayEnd_0 : decode cX5_mayEnd 0 = .ok (.iload_n 0, 1) := by decide +kernel
theorem dX5_mayEnd_1 : decode cX5_mayEnd 1 = .ok (.tableswitch 65 8 19 #[63, 65, 65, 65, 65, 65, 65, 65, 63, 63, 63, 63], 63) := by decide +kernel
theorem dX5_mayEnd_64 : decode cX5_mayEnd 64 = .ok (.iconst 1, 1) := by decide +kernel
theorem dX5_mayEnd_65 : decode cX5_mayEnd 65 = .ok (.ireturn, 1) := by decide +kernel
theorem dX5_mayEnd_66 : decode cX5_mayEnd 66 = .ok (.iconst 0, 1) := by decide +kernel
theorem dX5_mayEnd_67 : decode cX5_mayEnd 67 = .ok (.ireturn, 1) := by decide +kernel
theorem dX5_next_0 : decode cX5_next 0 = .ok (.iload_n 1, 1) := by decide +kernel
theorem dX5_next_1 : decode cX5_next 1 = .ok (.bipush 59, 2) := by decide +kernel
theorem dX5_next_3 : decode cX5_next 3 = .ok (.if_icmp .ne 16, 3) := by decide +kernel
theorem dX5_next_6 : decode cX5_next 6 = .ok (.iload_n 0, 1) := by decide +kernel
theorem dX5_next_7 : decode cX5_next 7 = .ok (.invokestatic 38, 3) := by decide +kernel
theorem dX5_next_10 : decode cX5_next 10 = .ok (.ifCond .eq 7, 3) := by decide +kernel
theorem dX5_next_13 : decode cX5_next 13 = .ok (.iconst 0, 1) := by decide +kernel
theorem dX5_next_14 : decode cX5_next 14 = .ok (.goto 4, 3) := by decide +kernel
theorem dX5_next_17 : decode cX5_next 17 = .ok (.iconst (-1), 1) := by decide +kernel
theorem dX5_next_18 : decode cX5_next 18 = .ok (.ireturn, 1) := by decide +kernel
theorem dX5_next_19 : decode cX5_next 19 = .ok (.iload_n 0, 1) := by decide +kernel
theorem dX5_next_20 : decode cX5_next 20 = .ok (.tableswitch 276 0 12 #[68, 73, 85, 102, 114, 131, 160, 173, 191, 209, 227, 245, 258], 68) := by decide +kernel
theorem dX5_next_88 : decode cX5_next 88 = .ok (.iload_n 1, 1) := by decide +kernel
theorem dX5_next_89 : decode cX5_next 89 = .ok (.invokestatic 42, 3) := by decide +kernel
theorem dX5_next_92 : decode cX5_next 92 = .ok (.ireturn, 1) := by decide +kernel
theorem dX5_next_93 : decode cX5_next 93 = .ok (.iload_n 1, 1) := by decide +kernel
theorem dX5_next_94 : decode cX5_next 94 = .ok (.bipush 62, 2) := by decide +kernel
theorem dX5_next_96 : decode cX5_next 96 = .ok (.if_icmp .ne 7, 3) := by decide +kernel
theorem dX5_next_99 : decode cX5_next 99 = .ok (.iconst 2, 1) := by decide +kernel
theorem dX5_next_100 : decode cX5_next 100 = .ok (.goto 4, 3) := by decide +kernel
theorem dX5_next_103 : decode cX5_next 103 = .ok (.iconst (-1), 1) := by decide +kernel
theorem dX5_next_104 : decode cX5_next 104 = .ok (.ireturn, 1) := by decide +kernel
theorem dX5_next_105 : decode cX5_next 105 = .ok (.iload_n 1, 1) := by decide +kernel
theorem dX5_next_106 : decode cX5_next 106 = .ok (.bipush 48, 2) := by decide +kernel
theorem dX5_next_108 : decode cX5_next 108 = .ok (.bipush 52, 2) := by decide +kernel
theorem dX5_next_110 : decode cX5_next 110 = .ok (.invokestatic 46, 3) := by decide +kernel
theorem dX5_next_113 : decode cX5_next 113 = .ok (.ifCond .eq 7, 3) := by decide +kernel
theorem dX5_next_116 : decode cX5_next 116 = .ok (.iconst 3, 1) := by decide +kernel
theorem dX5_next_117 : decode cX5_next 117 = .ok (.goto 4, 3) := by decide +kernel
theorem dX5_next_120 : decode cX5_next 120 = .ok (.iconst (-1), 1) := by decide +kernel
theorem dX5_next_121 : decode cX5_next 121 = .ok (.ireturn, 1) := by decide +kernel
theorem dX5_next_122 : decode cX5_next 122 = .ok (.iload_n 1, 1) := by decide +kernel
theorem dX5_next_123 : decode cX5_next 123 = .ok (.bipush 61, 2) := by decide +kernel
theorem dX5_next_125 : decode cX5_next 125 = .ok (.if_icmp .ne 7, 3) := by decide +kernel
theorem dX5_next_128 : decode cX5_next 128 = .ok (.iconst 4, 1) := by decide +kernel
theorem dX5_next_129 : decode cX5_next 129 = .ok (.goto 4, 3) := by decide +kernel
theorem dX5_next_132 : decode cX5_next 132 = .ok (.iconst (-1), 1) := by decide +kernel
theorem dX5_next_133 : decode cX5_next 133 = .ok (.ireturn, 1) := by decide +kernel
theorem dX5_next_134 : decode cX5_next 134 = .ok (.iload_n 1, 1) := by decide +kernel
theorem dX5_next_135 : decode cX5_next 135 = .ok (.bipush 49, 2) := by decide +kernel
theorem dX5_next_137 : decode cX5_next 137 = .ok (.bipush 57, 2) := by decide +kernel
theorem dX5_next_139 : decode cX5_next 139 = .ok (.invokestatic 46, 3) := by decide +kernel
theorem dX5_next_142 : decode cX5_next 142 = .ok (.ifCond .eq 7, 3) := by decide +kernel
theorem dX5_next_145 : decode cX5_next 145 = .ok (.iconst 5, 1) := by decide +kernel
theorem dX5_next_146 : decode cX5_next 146 = .ok (.goto 4, 3) := by decide +kernel
theorem dX5_next_149 : decode cX5_next 149 = .ok (.iconst (-1), 1) := by decide +kernel
theorem dX5_next_150 : decode cX5_next 150 = .ok (.ireturn, 1) := by decide +kernel
theorem dX5_next_151 : decode cX5_next 151 = .ok (.iload_n 1, 1) := by decide +kernel
theorem dX5_next_152 : decode cX5_next 152 = .ok (.bipush 48, 2) := by decide +kernel
theorem dX5_next_154 : decode cX5_next 154 = .ok (.bipush 57, 2) := by decide +kernel
theorem dX5_next_156 : decode cX5_next 156 = .ok (.invokestatic 46, 3) := by decide +kernel
theorem dX5_next_159 : decode cX5_next 159 = .ok (.ifCond .eq 8, 3) := by decide +kernel
theorem dX5_next_162 : decode cX5_next 162 = .ok (.bipush 6, 2) := by decide +kernel
theorem dX5_next_164 : decode cX5_next 164 = .ok (.goto 15, 3) := by decide +kernel
theorem dX5_next_167 : decode cX5_next 167 = .ok (.iload_n 1, 1) := by decide +kernel
theorem dX5_next_168 : decode cX5_next 168 = .ok (.bipush 47, 2) := by decide +kernel
theorem dX5_next_170 : decode cX5_next 170 = .ok (.if_icmp .ne 8, 3) := by decide +kernel
theorem dX5_next_173 : decode cX5_next 173 = .ok (.bipush 7, 2) := by decide +kernel
theorem dX5_next_175 : decode cX5_next 175 = .ok (.goto 4, 3) := by decide +kernel
theorem dX5_next_178 : decode cX5_next 178 = .ok (.iconst (-1), 1) := by decide +kernel
theorem dX5_next_179 : decode cX5_next 179 = .ok (.ireturn, 1) := by decide +kernel
theorem dX5_next_180 : decode cX5_next 180 = .ok (.iload_n 1, 1) := by decide +kernel
theorem dX5_next_181 : decode cX5_next 181 = .ok (.bipush 47, 2) := by decide +kernel
theorem dX5_next_183 : decode cX5_next 183 = .ok (.if_icmp .ne 8, 3) := by decide +kernel
theorem dX5_next_186 : decode cX5_next 186 = .ok (.bipush 7, 2) := by decide +kernel
theorem dX5_next_188 : decode cX5_next 188 = .ok (.goto 4, 3) := by decide +kernel
theorem dX5_next_191 : decode cX5_next 191 = .ok (.iconst (-1), 1) := by decide +kernel
theorem dX5_next_192 : decode cX5_next 192 = .ok (.ireturn, 1) := by decide +kernel
theorem dX5_next_193 : decode cX5_next 193 = .ok (.iload_n 1, 1) := by decide +kernel
theorem dX5_next_194 : decode cX5_next 194 = .ok (.bipush 49, 2) := by decide +kernel
theorem dX5_next_196 : decode cX5_next 196 = .ok (.bipush 57, 2) := by decide +kernel
theorem dX5_next_198 : decode cX5_next 198 = .ok (.invokestatic 46, 3) := by decide +kernel
theorem dX5_next_201 : decode cX5_next 201 = .ok (.ifCond .eq 8, 3) := by decide +kernel
theorem dX5_next_204 : decode cX5_next 204 = .ok (.bipush 8, 2) := by decide +kernel
theorem dX5_next_206 : decode cX5_next 206 = .ok (.goto 4, 3) := by decide +kernel
theorem dX5_next_209 : decode cX5_next 209 = .ok (.iconst (-1), 1) := by decide +kernel
theorem dX5_next_210 : decode cX5_next 210 = .ok (.ireturn, 1) := by decide +kernel
theorem dX5_next_211 : decode cX5_next 211 = .ok (.iload_n 1, 1) := by decide +kernel
theorem dX5_next_212 : decode cX5_next 212 = .ok (.bipush 48, 2) := by decide +kernel
theorem dX5_next_214 : decode cX5_next 214 = .ok (.bipush 57, 2) := by decide +kernel
theorem dX5_next_216 : decode cX5_next 216 = .ok (.invokestatic 46, 3) := by decide +kernel
theorem dX5_next_219 : decode cX5_next 219 = .ok (.ifCond .eq 8, 3) := by decide +kernel
theorem dX5_next_222 : decode cX5_next 222 = .ok (.bipush 19, 2) := by decide +kernel
theorem dX5_next_224 : decode cX5_next 224 = .ok (.goto 4, 3) := by decide +kernel
theorem dX5_next_227 : decode cX5_next 227 = .ok (.iconst (-1), 1) := by decide +kernel
theorem dX5_next_228 : decode cX5_next 228 = .ok (.ireturn, 1) := by decide +kernel
theorem dX5_next_229 : decode cX5_next 229 = .ok (.iload_n 1, 1) := by decide +kernel
theorem dX5_next_230 : decode cX5_next 230 = .ok (.bipush 48, 2) := by decide +kernel
theorem dX5_next_232 : decode cX5_next 232 = .ok (.bipush 52, 2) := by decide +kernel
theorem dX5_next_234 : decode cX5_next 234 = .ok (.invokestatic 46, 3) := by decide +kernel
theorem dX5_next_237 : decode cX5_next 237 = .ok (.ifCond .eq 8, 3) := by decide +kernel
theorem dX5_next_240 : decode cX5_next 240 = .ok (.bipush 11, 2) := by decide +kernel
theorem dX5_next_242 : decode cX5_next 242 = .ok (.goto 4, 3) := by decide +kernel
theorem dX5_next_245 : decode cX5_next 245 = .ok (.iconst (-1), 1) := by decide +kernel
theorem dX5_next_246 : decode cX5_next 246 = .ok (.ireturn, 1) := by decide +kernel
theorem dX5_next_247 : decode cX5_next 247 = .ok (.iload_n 1, 1) := by decide +kernel
theorem dX5_next_248 : decode cX5_next 248 = .ok (.bipush 48, 2) := by decide +kernel
theorem dX5_next_250 : decode cX5_next 250 = .ok (.bipush 55, 2) := by decide +kernel
theorem dX5_next_252 : decode cX5_next 252 = .ok (.invokestatic 46, 3) := by decide +kernel
theorem dX5_next_255 : decode cX5_next 255 = .ok (.ifCond .eq 8, 3) := by decide +kernel
theorem dX5_next_258 : decode cX5_next 258 = .ok (.bipush 11, 2) := by decide +kernel
theorem dX5_next_260 : decode cX5_next 260 = .ok (.goto 4, 3) := by decide +kernel
theorem dX5_next_263 : decode cX5_next 263 = .ok (.iconst (-1), 1) := by decide +kernel
theorem dX5_next_264 : decode cX5_next 264 = .ok (.ireturn, 1) := by decide +kernel
theorem dX5_next_265 : decode cX5_next 265 = .ok (.iload_n 1, 1) := by decide +kernel
theorem dX5_next_266 : decode cX5_next 266 = .ok (.bipush 62, 2) := by decide +kernel
theorem dX5_next_268 : decode cX5_next 268 = .ok (.if_icmp .ne 8, 3) := by decide +kernel
theorem dX5_next_271 : decode cX5_next 271 = .ok (.bipush 12, 2) := by decide +kernel
theorem dX5_next_273 : decode cX5_next 273 = .ok (.goto 4, 3) := by decide +kernel
theorem dX5_next_276 : decode cX5_next 276 = .ok (.iconst (-1), 1) := by decide +kernel
theorem dX5_next_277 : decode cX5_next 277 = .ok (.ireturn, 1) := by decide +kernel
theorem dX5_next_278 : decode cX5_next 278 = .ok (.iload_n 1, 1) := by decide +kernel
theorem dX5_next_279 : decode cX5_next 279 = .ok (.bipush 48, 2) := by decide +kernel
theorem dX5_next_281 : decode cX5_next 281 = .ok (.bipush 52, 2) := by decide +kernel
theorem dX5_next_283 : decode cX5_next 283 = .ok (.invokestatic 46, 3) := by decide +kernel
theorem dX5_next_286 : decode cX5_next 286 = .ok (.ifCond .eq 8, 3) := by decide +kernel
theorem dX5_next_289 : decode cX5_next 289 = .ok (.bipush 19, 2) := by decide +kernel
theorem dX5_next_291 : decode cX5_next 291 = .ok (.goto 4, 3) := by decide +kernel
theorem dX5_next_294 : decode cX5_next 294 = .ok (.iconst (-1), 1) := by decide +kernel
theorem dX5_next_295 : decode cX5_next 295 = .ok (.ireturn, 1) := by decide +kernel
theorem dX5_next_296 : decode cX5_next 296 = .ok (.iload_n 0, 1) := by decide +kernel
theorem dX5_next_297 : decode cX5_next 297 = .ok (.iload_n 1, 1) := by decide +kernel
theorem dX5_next_298 : decode cX5_next 298 = .ok (.invokestatic 50, 3) := by decide +kernel
theorem dX5_next_301 : decode cX5_next 301 = .ok (.ireturn, 1) := by decide +kernel
theorem dX5_nextOfPart_0 : decode cX5_nextOfPart 0 = .ok (.iload_n 0, 1) := by decide +kernel
theorem dX5_nextOfPart_1 : decode cX5_nextOfPart 1 = .ok (.bipush 48, 2) := by decide +kernel
theorem dX5_nextOfPart_3 : decode cX5_nextOfPart 3 = .ok (.bipush 52, 2) := by decide +kernel
theorem dX5_nextOfPart_5 : decode cX5_nextOfPart 5 = .ok (.invokestatic 46, 3) := by decide +kernel
theorem dX5_nextOfPart_8 : decode cX5_nextOfPart 8 = .ok (.ifCond .eq 5, 3) := by decide +kernel
theorem dX5_nextOfPart_11 : decode cX5_nextOfPart 11 = .ok (.iconst 1, 1) := by decide +kernel
theorem dX5_nextOfPart_12 : decode cX5_nextOfPart 12 = .ok (.ireturn, 1) := by decide +kernel
theorem dX5_nextOfPart_13 : decode cX5_nextOfPart 13 = .ok (.iload_n 0, 1) := by decide +kernel
theorem dX5_nextOfPart_14 : decode cX5_nextOfPart 14 = .ok (.lookupswitch 43 #[(45, 34), (98, 37), (115, 40)], 34) := by decide +kernel
theorem dX5_nextOfPart_48 : decode cX5_nextOfPart 48 = .ok (.bipush 9, 2) := by decide +kernel
theorem dX5_nextOfPart_50 : decode cX5_nextOfPart 50 = .ok (.ireturn, 1) := by decide +kernel
theorem dX5_nextOfPart_51 : decode cX5_nextOfPart 51 = .ok (.bipush 13, 2) := by decide +kernel
theorem dX5_nextOfPart_53 : decode cX5_nextOfPart 53 = .ok (.ireturn, 1) := by decide +kernel
theorem dX5_nextOfPart_54 : decode cX5_nextOfPart 54 = .ok (.bipush 10, 2) := by decide +kernel
theorem dX5_nextOfPart_56 : decode cX5_nextOfPart 56 = .ok (.ireturn, 1) := by decide +kernel
theorem dX5_nextOfPart_57 : decode cX5_nextOfPart 57 = .ok (.iconst (-1), 1) := by decide +kernel
theorem dX5_nextOfPart_58 : decode cX5_nextOfPart 58 = .ok (.ireturn, 1) := by decide +kernel
theorem dX5_nextOfBolt_0 : decode cX5_nextOfBolt 0 = .ok (.iload_n 0, 1) := by decide +kernel
theorem dX5_nextOfBolt_1 : decode cX5_nextOfBolt 1 = .ok (.tableswitch 142 13 18 #[39, 57, 70, 88, 106, 124], 39) := by decide +kernel
theorem dX5_nextOfBolt_40 : decode cX5_nextOfBolt 40 = .ok (.iload_n 1, 1) := by decide +kernel
theorem dX5_nextOfBolt_41 : decode cX5_nextOfBolt 41 = .ok (.bipush 48, 2) := by decide +kernel
theorem dX5_nextOfBolt_43 : decode cX5_nextOfBolt 43 = .ok (.bipush 52, 2) := by decide +kernel
theorem dX5_nextOfBolt_45 : decode cX5_nextOfBolt 45 = .ok (.invokestatic 46, 3) := by decide +kernel
theorem dX5_nextOfBolt_48 : decode cX5_nextOfBolt 48 = .ok (.ifCond .eq 8, 3) := by decide +kernel
theorem dX5_nextOfBolt_51 : decode cX5_nextOfBolt 51 = .ok (.bipush 14, 2) := by decide +kernel
theorem dX5_nextOfBolt_53 : decode cX5_nextOfBolt 53 = .ok (.goto 4, 3) := by decide +kernel
theorem dX5_nextOfBolt_56 : decode cX5_nextOfBolt 56 = .ok (.iconst (-1), 1) := by decide +kernel
theorem dX5_nextOfBolt_57 : decode cX5_nextOfBolt 57 = .ok (.ireturn, 1) := by decide +kernel
theorem dX5_nextOfBolt_58 : decode cX5_nextOfBolt 58 = .ok (.iload_n 1, 1) := by decide +kernel
theorem dX5_nextOfBolt_59 : decode cX5_nextOfBolt 59 = .ok (.bipush 61, 2) := by decide +kernel
theorem dX5_nextOfBolt_61 : decode cX5_nextOfBolt 61 = .ok (.if_icmp .ne 8, 3) := by decide +kernel
theorem dX5_nextOfBolt_64 : decode cX5_nextOfBolt 64 = .ok (.bipush 15, 2) := by decide +kernel
theorem dX5_nextOfBolt_66 : decode cX5_nextOfBolt 66 = .ok (.goto 4, 3) := by decide +kernel
theorem dX5_nextOfBolt_69 : decode cX5_nextOfBolt 69 = .ok (.iconst (-1), 1) := by decide +kernel
theorem dX5_nextOfBolt_70 : decode cX5_nextOfBolt 70 = .ok (.ireturn, 1) := by decide +kernel
theorem dX5_nextOfBolt_71 : decode cX5_nextOfBolt 71 = .ok (.iload_n 1, 1) := by decide +kernel
theorem dX5_nextOfBolt_72 : decode cX5_nextOfBolt 72 = .ok (.bipush 49, 2) := by decide +kernel
theorem dX5_nextOfBolt_74 : decode cX5_nextOfBolt 74 = .ok (.bipush 57, 2) := by decide +kernel
theorem dX5_nextOfBolt_76 : decode cX5_nextOfBolt 76 = .ok (.invokestatic 46, 3) := by decide +kernel
theorem dX5_nextOfBolt_79 : decode cX5_nextOfBolt 79 = .ok (.ifCond .eq 8, 3) := by decide +kernel
theorem dX5_nextOfBolt_82 : decode cX5_nextOfBolt 82 = .ok (.bipush 16, 2) := by decide +kernel
theorem dX5_nextOfBolt_84 : decode cX5_nextOfBolt 84 = .ok (.goto 4, 3) := by decide +kernel
theorem dX5_nextOfBolt_87 : decode cX5_nextOfBolt 87 = .ok (.iconst (-1), 1) := by decide +kernel
theorem dX5_nextOfBolt_88 : decode cX5_nextOfBolt 88 = .ok (.ireturn, 1) := by decide +kernel
theorem dX5_nextOfBolt_89 : decode cX5_nextOfBolt 89 = .ok (.iload_n 1, 1) := by decide +kernel
theorem dX5_nextOfBolt_90 : decode cX5_nextOfBolt 90 = .ok (.bipush 48, 2) := by decide +kernel
theorem dX5_nextOfBolt_92 : decode cX5_nextOfBolt 92 = .ok (.bipush 57, 2) := by decide +kernel
theorem dX5_nextOfBolt_94 : decode cX5_nextOfBolt 94 = .ok (.invokestatic 46, 3) := by decide +kernel
theorem dX5_nextOfBolt_97 : decode cX5_nextOfBolt 97 = .ok (.ifCond .eq 8, 3) := by decide +kernel
theorem dX5_nextOfBolt_100 : decode cX5_nextOfBolt 100 = .ok (.bipush 17, 2) := by decide +kernel
theorem dX5_nextOfBolt_102 : decode cX5_nextOfBolt 102 = .ok (.goto 4, 3) := by decide +kernel
theorem dX5_nextOfBolt_105 : decode cX5_nextOfBolt 105 = .ok (.iconst (-1), 1) := by decide +kernel
theorem dX5_nextOfBolt_106 : decode cX5_nextOfBolt 106 = .ok (.ireturn, 1) := by decide +kernel
theorem dX5_nextOfBolt_107 : decode cX5_nextOfBolt 107 = .ok (.iload_n 1, 1) := by decide +kernel
theorem dX5_nextOfBolt_108 : decode cX5_nextOfBolt 108 = .ok (.bipush 48, 2) := by decide +kernel
theorem dX5_nextOfBolt_110 : decode cX5_nextOfBolt 110 = .ok (.bipush 57, 2) := by decide +kernel
theorem dX5_nextOfBolt_112 : decode cX5_nextOfBolt 112 = .ok (.invokestatic 46, 3) := by decide +kernel
theorem dX5_nextOfBolt_115 : decode cX5_nextOfBolt 115 = .ok (.ifCond .eq 8, 3) := by decide +kernel
theorem dX5_nextOfBolt_118 : decode cX5_nextOfBolt 118 = .ok (.bipush 18, 2) := by decide +kernel
theorem dX5_nextOfBolt_120 : decode cX5_nextOfBolt 120 = .ok (.goto 4, 3) := by decide +kernel
theorem dX5_nextOfBolt_123 : decode cX5_nextOfBolt 123 = .ok (.iconst (-1), 1) := by decide +kernel
theorem dX5_nextOfBolt_124 : decode cX5_nextOfBolt 124 = .ok (.ireturn, 1) := by decide +kernel
theorem dX5_nextOfBolt_125 : decode cX5_nextOfBolt 125 = .ok (.iload_n 1, 1) := by decide +kernel
theorem dX5_nextOfBolt_126 : decode cX5_nextOfBolt 126 = .ok (.bipush 48, 2) := by decide +kernel
theorem dX5_nextOfBolt_128 : decode cX5_nextOfBolt 128 = .ok (.bipush 57, 2) := by decide +kernel
theorem dX5_nextOfBolt_130 : decode cX5_nextOfBolt 130 = .ok (.invokestatic 46, 3) := by decide +kernel
theorem dX5_nextOfBolt_133 : decode cX5_nextOfBolt 133 = .ok (.ifCond .eq 8, 3) := by decide +kernel
theorem dX5_nextOfBolt_136 : decode cX5_nextOfBolt 136 = .ok (.bipush 19, 2) := by decide +kernel
theorem dX5_nextOfBolt_138 : decode cX5_nextOfBolt 138 = .ok (.goto 4, 3) := by decide +kernel
theorem dX5_nextOfBolt_141 : decode cX5_nextOfBolt 141 = .ok (.iconst (-1), 1) := by decide +kernel
theorem dX5_nextOfBolt_142 : decode cX5_nextOfBolt 142 = .ok (.ireturn, 1) := by decide +kernel
theorem dX5_nextOfBolt_143 : decode cX5_nextOfBolt 143 = .ok (.iconst (-1), 1) := by decide +kernel
theorem dX5_nextOfBolt_144 : decode cX5_nextOfBolt 144 = .ok (.ireturn, 1) := by decide +kernel
theorem dX5_isDigit_0 : decode cX5_isDigit 0 = .ok (.iload_n 0, 1) := by decide +kernel
theorem dX5_isDigit_1 : decode cX5_isDigit 1 = .ok (.iload_n 1, 1) := by decide +kernel
theorem dX5_isDigit_2 : decode cX5_isDigit 2 = .ok (.if_icmp .lt 12, 3) := by decide +kernel
theorem dX5_isDigit_5 : decode cX5_isDigit 5 = .ok (.iload_n 0, 1) := by decide +kernel
theorem dX5_isDigit_6 : decode cX5_isDigit 6 = .ok (.iload_n 2, 1) := by decide +kernel
theorem dX5_isDigit_7 : decode cX5_isDigit 7 = .ok (.if_icmp .gt 7, 3) := by decide +kernel
theorem dX5_isDigit_10 : decode cX5_isDigit 10 = .ok (.iconst 1, 1) := by decide +kernel
theorem dX5_isDigit_11 : decode cX5_isDigit 11 = .ok (.goto 4, 3) := by decide +kernel
theorem dX5_isDigit_14 : decode cX5_isDigit 14 = .ok (.iconst 0, 1) := by decide +kernel
theorem dX5_isDigit_15 : decode cX5_isDigit 15 = .ok (.ireturn, 1) := by decide +kernel
theorem dX5_readPart_0 : decode cX5_readPart 0 = .ok (.iconst 0, 1) := by decide +kernel
theorem dX5_readPart_1 : decode cX5_readPart 1 = .ok (.istore_n 3, 1) := by decide +kernel
theorem dX5_readPart_2 : decode cX5_readPart 2 = .ok (.iload_n 3, 1) := by decide +kernel
theorem dX5_readPart_3 : decode cX5_readPart 3 = .ok (.iconst 4, 1) := by decide +kernel
theorem dX5_readPart_4 : decode cX5_readPart 4 = .ok (.if_icmp .ge 15, 3) := by decide +kernel
theorem dX5_readPart_7 : decode cX5_readPart 7 = .ok (.aload_n 2, 1) := by decide +kernel
theorem dX5_readPart_8 : decode cX5_readPart 8 = .ok (.iload_n 3, 1) := by decide +kernel
theorem dX5_readPart_9 : decode cX5_readPart 9 = .ok (.iconst 0, 1) := by decide +kernel
theorem dX5_readPart_10 : decode cX5_readPart 10 = .ok (.invokestatic 22, 3) := by decide +kernel
theorem dX5_readPart_13 : decode cX5_readPart 13 = .ok (.iinc 3 1, 3) := by decide +kernel
theorem dX5_readPart_16 : decode cX5_readPart 16 = .ok (.goto (-14), 3) := by decide +kernel
theorem dX5_readPart_19 : decode cX5_readPart 19 = .ok (.iconst 0, 1) := by decide +kernel
theorem dX5_readPart_20 : decode cX5_readPart 20 = .ok (.istore_n 3, 1) := by decide +kernel
theorem dX5_readPart_21 : decode cX5_readPart 21 = .ok (.iload_n 1, 1) := by decide +kernel
theorem dX5_readPart_22 : decode cX5_readPart 22 = .ok (.istore 4, 2) := by decide +kernel
theorem dX5_readPart_24 : decode cX5_readPart 24 = .ok (.iload 4, 2) := by decide +kernel
theorem dX5_readPart_26 : decode cX5_readPart 26 = .ok (.aload_n 0, 1) := by decide +kernel
theorem dX5_readPart_27 : decode cX5_readPart 27 = .ok (.getfield 15, 3) := by decide +kernel
theorem dX5_readPart_30 : decode cX5_readPart 30 = .ok (.if_icmp .ge 77, 3) := by decide +kernel
theorem dX5_readPart_33 : decode cX5_readPart 33 = .ok (.aload_n 0, 1) := by decide +kernel
theorem dX5_readPart_34 : decode cX5_readPart 34 = .ok (.getfield 9, 3) := by decide +kernel
theorem dX5_readPart_37 : decode cX5_readPart 37 = .ok (.iload 4, 2) := by decide +kernel
theorem dX5_readPart_39 : decode cX5_readPart 39 = .ok (.invokestatic 26, 3) := by decide +kernel
theorem dX5_readPart_42 : decode cX5_readPart 42 = .ok (.bipush 59, 2) := by decide +kernel
theorem dX5_readPart_44 : decode cX5_readPart 44 = .ok (.if_icmp .eq 63, 3) := by decide +kernel
theorem dX5_readPart_47 : decode cX5_readPart 47 = .ok (.aload_n 0, 1) := by decide +kernel
theorem dX5_readPart_48 : decode cX5_readPart 48 = .ok (.getfield 9, 3) := by decide +kernel
theorem dX5_readPart_51 : decode cX5_readPart 51 = .ok (.iload 4, 2) := by decide +kernel
theorem dX5_readPart_53 : decode cX5_readPart 53 = .ok (.invokestatic 26, 3) := by decide +kernel
theorem dX5_readPart_56 : decode cX5_readPart 56 = .ok (.istore 5, 2) := by decide +kernel
theorem dX5_readPart_58 : decode cX5_readPart 58 = .ok (.iload 5, 2) := by decide +kernel
theorem dX5_readPart_60 : decode cX5_readPart 60 = .ok (.bipush 48, 2) := by decide +kernel
theorem dX5_readPart_62 : decode cX5_readPart 62 = .ok (.bipush 57, 2) := by decide +kernel
theorem dX5_readPart_64 : decode cX5_readPart 64 = .ok (.invokestatic 46, 3) := by decide +kernel
theorem dX5_readPart_67 : decode cX5_readPart 67 = .ok (.ifCond .eq 25, 3) := by decide +kernel
theorem dX5_readPart_70 : decode cX5_readPart 70 = .ok (.aload_n 2, 1) := by decide +kernel
theorem dX5_readPart_71 : decode cX5_readPart 71 = .ok (.iload_n 3, 1) := by decide +kernel
theorem dX5_readPart_72 : decode cX5_readPart 72 = .ok (.aload_n 2, 1) := by decide +kernel
theorem dX5_readPart_73 : decode cX5_readPart 73 = .ok (.iload_n 3, 1) := by decide +kernel
theorem dX5_readPart_74 : decode cX5_readPart 74 = .ok (.invokestatic 26, 3) := by decide +kernel
theorem dX5_readPart_77 : decode cX5_readPart 77 = .ok (.bipush 10, 2) := by decide +kernel
theorem dX5_readPart_79 : decode cX5_readPart 79 = .ok (.imul, 1) := by decide +kernel
theorem dX5_readPart_80 : decode cX5_readPart 80 = .ok (.iload 5, 2) := by decide +kernel
theorem dX5_readPart_82 : decode cX5_readPart 82 = .ok (.iadd, 1) := by decide +kernel
theorem dX5_readPart_83 : decode cX5_readPart 83 = .ok (.bipush 48, 2) := by decide +kernel
theorem dX5_readPart_85 : decode cX5_readPart 85 = .ok (.isub, 1) := by decide +kernel
theorem dX5_readPart_86 : decode cX5_readPart 86 = .ok (.invokestatic 22, 3) := by decide +kernel
theorem dX5_readPart_89 : decode cX5_readPart 89 = .ok (.goto 12, 3) := by decide +kernel
theorem dX5_readPart_92 : decode cX5_readPart 92 = .ok (.iload 4, 2) := by decide +kernel
theorem dX5_readPart_94 : decode cX5_readPart 94 = .ok (.iload_n 1, 1) := by decide +kernel
theorem dX5_readPart_95 : decode cX5_readPart 95 = .ok (.if_icmp .le 6, 3) := by decide +kernel
theorem dX5_readPart_98 : decode cX5_readPart 98 = .ok (.iinc 3 1, 3) := by decide +kernel
theorem dX5_readPart_101 : decode cX5_readPart 101 = .ok (.iinc 4 1, 3) := by decide +kernel
theorem dX5_readPart_104 : decode cX5_readPart 104 = .ok (.goto (-80), 3) := by decide +kernel
theorem dX5_readPart_107 : decode cX5_readPart 107 = .ok (.iload 4, 2) := by decide +kernel
theorem dX5_readPart_109 : decode cX5_readPart 109 = .ok (.ireturn, 1) := by decide +kernel
theorem dX6_init_0 : decode cX6_init 0 = .ok (.aload_n 0, 1) := by decide +kernel
theorem dX6_init_1 : decode cX6_init 1 = .ok (.invokespecial 3, 3) := by decide +kernel
theorem dX6_init_4 : decode cX6_init 4 = .ok (.aload_n 0, 1) := by decide +kernel
theorem dX6_init_5 : decode cX6_init 5 = .ok (.iconst 5, 1) := by decide +kernel
theorem dX6_init_6 : decode cX6_init 6 = .ok (.newarray .int, 2) := by decide +kernel
theorem dX6_init_8 : decode cX6_init 8 = .ok (.putfield 9, 3) := by decide +kernel
theorem dX6_init_11 : decode cX6_init 11 = .ok (.aload_n 0, 1) := by decide +kernel
theorem dX6_init_12 : decode cX6_init 12 = .ok (.iconst 0, 1) := by decide +kernel
theorem dX6_init_13 : decode cX6_init 13 = .ok (.putfield 15, 3) := by decide +kernel
theorem dX6_init_16 : decode cX6_init 16 = .ok (.return_, 1) := by decide +kernel
theorem dX6_choose_0 : decode cX6_choose 0 = .ok (.getstatic 19, 3) := by decide +kernel
theorem dX6_choose_3 : decode cX6_choose 3 = .ok (.iload_n 3, 1) := by decide +kernel
theorem dX6_choose_4 : decode cX6_choose 4 = .ok (.invokestatic 22, 3) := by decide +kernel
theorem dX6_choose_7 : decode cX6_choose 7 = .ok (.istore 4, 2) := by decide +kernel
theorem dX6_choose_9 : decode cX6_choose 9 = .ok (.aload_n 0, 1) := by decide +kernel
theorem dX6_choose_10 : decode cX6_choose 10 = .ok (.iload 4, 2) := by decide +kernel
theorem dX6_choose_12 : decode cX6_choose 12 = .ok (.invokestatic 26, 3) := by decide +kernel
theorem dX6_choose_15 : decode cX6_choose 15 = .ok (.putfield 15, 3) := by decide +kernel
theorem dX6_choose_18 : decode cX6_choose 18 = .ok (.aload_n 0, 1) := by decide +kernel
theorem dX6_choose_19 : decode cX6_choose 19 = .ok (.getfield 15, 3) := by decide +kernel
theorem dX6_choose_22 : decode cX6_choose 22 = .ok (.iconst 2, 1) := by decide +kernel
theorem dX6_choose_23 : decode cX6_choose 23 = .ok (.isub, 1) := by decide +kernel
theorem dX6_choose_24 : decode cX6_choose 24 = .ok (.istore 5, 2) := by decide +kernel
theorem dX6_choose_26 : decode cX6_choose 26 = .ok (.iload 5, 2) := by decide +kernel
theorem dX6_choose_28 : decode cX6_choose 28 = .ok (.ifCond .le 35, 3) := by decide +kernel
theorem dX6_choose_31 : decode cX6_choose 31 = .ok (.aload_n 0, 1) := by decide +kernel
theorem dX6_choose_32 : decode cX6_choose 32 = .ok (.getfield 9, 3) := by decide +kernel
theorem dX6_choose_35 : decode cX6_choose 35 = .ok (.iload 5, 2) := by decide +kernel
theorem dX6_choose_37 : decode cX6_choose 37 = .ok (.iload_n 1, 1) := by decide +kernel
theorem dX6_choose_38 : decode cX6_choose 38 = .ok (.iload_n 2, 1) := by decide +kernel
theorem dX6_choose_39 : decode cX6_choose 39 = .ok (.iload 4, 2) := by decide +kernel
theorem dX6_choose_41 : decode cX6_choose 41 = .ok (.bipush 10, 2) := by decide +kernel
theorem dX6_choose_43 : decode cX6_choose 43 = .ok (.irem, 1) := by decide +kernel
theorem dX6_choose_44 : decode cX6_choose 44 = .ok (.invokestatic 30, 3) := by decide +kernel
theorem dX6_choose_47 : decode cX6_choose 47 = .ok (.invokestatic 34, 3) := by decide +kernel
theorem dX6_choose_50 : decode cX6_choose 50 = .ok (.iload 4, 2) := by decide +kernel
theorem dX6_choose_52 : decode cX6_choose 52 = .ok (.bipush 10, 2) := by decide +kernel
theorem dX6_choose_54 : decode cX6_choose 54 = .ok (.idiv, 1) := by decide +kernel
theorem dX6_choose_55 : decode cX6_choose 55 = .ok (.istore 4, 2) := by decide +kernel
theorem dX6_choose_57 : decode cX6_choose 57 = .ok (.iinc 5 (-1), 3) := by decide +kernel
theorem dX6_choose_60 : decode cX6_choose 60 = .ok (.goto (-34), 3) := by decide +kernel
theorem dX6_choose_63 : decode cX6_choose 63 = .ok (.aload_n 0, 1) := by decide +kernel
theorem dX6_choose_64 : decode cX6_choose 64 = .ok (.getfield 9, 3) := by decide +kernel
theorem dX6_choose_67 : decode cX6_choose 67 = .ok (.iconst 0, 1) := by decide +kernel
theorem dX6_choose_68 : decode cX6_choose 68 = .ok (.iload_n 1, 1) := by decide +kernel
theorem dX6_choose_69 : decode cX6_choose 69 = .ok (.invokestatic 34, 3) := by decide +kernel
theorem dX6_choose_72 : decode cX6_choose 72 = .ok (.aload_n 0, 1) := by decide +kernel
theorem dX6_choose_73 : decode cX6_choose 73 = .ok (.getfield 9, 3) := by decide +kernel
theorem dX6_choose_76 : decode cX6_choose 76 = .ok (.aload_n 0, 1) := by decide +kernel
theorem dX6_choose_77 : decode cX6_choose 77 = .ok (.getfield 15, 3) := by decide +kernel
theorem dX6_choose_80 : decode cX6_choose 80 = .ok (.iconst 1, 1) := by decide +kernel
theorem dX6_choose_81 : decode cX6_choose 81 = .ok (.isub, 1) := by decide +kernel
theorem dX6_choose_82 : decode cX6_choose 82 = .ok (.iload_n 2, 1) := by decide +kernel
theorem dX6_choose_83 : decode cX6_choose 83 = .ok (.invokestatic 34, 3) := by decide +kernel
theorem dX6_choose_86 : decode cX6_choose 86 = .ok (.return_, 1) := by decide +kernel
theorem dX6_stopsOf_0 : decode cX6_stopsOf 0 = .ok (.iload_n 0, 1) := by decide +kernel
theorem dX6_stopsOf_1 : decode cX6_stopsOf 1 = .ok (.bipush 100, 2) := by decide +kernel
theorem dX6_stopsOf_3 : decode cX6_stopsOf 3 = .ok (.if_icmp .lt 5, 3) := by decide +kernel
theorem dX6_stopsOf_6 : decode cX6_stopsOf 6 = .ok (.iconst 5, 1) := by decide +kernel
theorem dX6_stopsOf_7 : decode cX6_stopsOf 7 = .ok (.ireturn, 1) := by decide +kernel
theorem dX6_stopsOf_8 : decode cX6_stopsOf 8 = .ok (.iload_n 0, 1) := by decide +kernel
theorem dX6_stopsOf_9 : decode cX6_stopsOf 9 = .ok (.bipush 10, 2) := by decide +kernel
theorem dX6_stopsOf_11 : decode cX6_stopsOf 11 = .ok (.if_icmp .lt 5, 3) := by decide +kernel
theorem dX6_stopsOf_14 : decode cX6_stopsOf 14 = .ok (.iconst 4, 1) := by decide +kernel
theorem dX6_stopsOf_15 : decode cX6_stopsOf 15 = .ok (.ireturn, 1) := by decide +kernel
theorem dX6_stopsOf_16 : decode cX6_stopsOf 16 = .ok (.iload_n 0, 1) := by decide +kernel
theorem dX6_stopsOf_17 : decode cX6_stopsOf 17 = .ok (.iconst 1, 1) := by decide +kernel
theorem dX6_stopsOf_18 : decode cX6_stopsOf 18 = .ok (.if_icmp .lt 7, 3) := by decide +kernel
theorem dX6_stopsOf_21 : decode cX6_stopsOf 21 = .ok (.iconst 3, 1) := by decide +kernel
theorem dX6_stopsOf_22 : decode cX6_stopsOf 22 = .ok (.goto 4, 3) := by decide +kernel
theorem dX6_stopsOf_25 : decode cX6_stopsOf 25 = .ok (.iconst 2, 1) := by decide +kernel
theorem dX6_stopsOf_26 : decode cX6_stopsOf 26 = .ok (.ireturn, 1) := by decide +kernel
theorem dX6_otherParish_0 : decode cX6_otherParish 0 = .ok (.iconst 0, 1) := by decide +kernel
theorem dX6_otherParish_1 : decode cX6_otherParish 1 = .ok (.istore_n 3, 1) := by decide +kernel
theorem dX6_otherParish_2 : decode cX6_otherParish 2 = .ok (.iconst 0, 1) := by decide +kernel
theorem dX6_otherParish_3 : decode cX6_otherParish 3 = .ok (.istore 4, 2) := by decide +kernel
theorem dX6_otherParish_5 : decode cX6_otherParish 5 = .ok (.iload 4, 2) := by decide +kernel
theorem dX6_otherParish_7 : decode cX6_otherParish 7 = .ok (.iconst 5, 1) := by decide +kernel
theorem dX6_otherParish_8 : decode cX6_otherParish 8 = .ok (.if_icmp .ge 32, 3) := by decide +kernel
theorem dX6_otherParish_11 : decode cX6_otherParish 11 = .ok (.iload 4, 2) := by decide +kernel
theorem dX6_otherParish_13 : decode cX6_otherParish 13 = .ok (.iload_n 0, 1) := by decide +kernel
theorem dX6_otherParish_14 : decode cX6_otherParish 14 = .ok (.if_icmp .eq 20, 3) := by decide +kernel
theorem dX6_otherParish_17 : decode cX6_otherParish 17 = .ok (.iload 4, 2) := by decide +kernel
theorem dX6_otherParish_19 : decode cX6_otherParish 19 = .ok (.iload_n 1, 1) := by decide +kernel
theorem dX6_otherParish_20 : decode cX6_otherParish 20 = .ok (.if_icmp .eq 14, 3) := by decide +kernel
theorem dX6_otherParish_23 : decode cX6_otherParish 23 = .ok (.iinc 3 1, 3) := by decide +kernel
theorem dX6_otherParish_26 : decode cX6_otherParish 26 = .ok (.iload_n 3, 1) := by decide +kernel
theorem dX6_otherParish_27 : decode cX6_otherParish 27 = .ok (.iload_n 2, 1) := by decide +kernel
theorem dX6_otherParish_28 : decode cX6_otherParish 28 = .ok (.if_icmp .ne 6, 3) := by decide +kernel
theorem dX6_otherParish_31 : decode cX6_otherParish 31 = .ok (.iload 4, 2) := by decide +kernel
theorem dX6_otherParish_33 : decode cX6_otherParish 33 = .ok (.ireturn, 1) := by decide +kernel
theorem dX6_otherParish_34 : decode cX6_otherParish 34 = .ok (.iinc 4 1, 3) := by decide +kernel
theorem dX6_otherParish_37 : decode cX6_otherParish 37 = .ok (.goto (-32), 3) := by decide +kernel
theorem dX6_otherParish_40 : decode cX6_otherParish 40 = .ok (.iload_n 0, 1) := by decide +kernel
theorem dX6_otherParish_41 : decode cX6_otherParish 41 = .ok (.ireturn, 1) := by decide +kernel
theorem dX6_stands_0 : decode cX6_stands 0 = .ok (.iconst 0, 1) := by decide +kernel
theorem dX6_stands_1 : decode cX6_stands 1 = .ok (.istore_n 2, 1) := by decide +kernel
theorem dX6_stands_2 : decode cX6_stands 2 = .ok (.iload_n 2, 1) := by decide +kernel
theorem dX6_stands_3 : decode cX6_stands 3 = .ok (.aload_n 0, 1) := by decide +kernel
theorem dX6_stands_4 : decode cX6_stands 4 = .ok (.getfield 15, 3) := by decide +kernel
theorem dX6_stands_7 : decode cX6_stands 7 = .ok (.iconst 1, 1) := by decide +kernel
theorem dX6_stands_8 : decode cX6_stands 8 = .ok (.isub, 1) := by decide +kernel
theorem dX6_stands_9 : decode cX6_stands 9 = .ok (.if_icmp .ge 36, 3) := by decide +kernel
theorem dX6_stands_12 : decode cX6_stands 12 = .ok (.aload_n 1, 1) := by decide +kernel
theorem dX6_stands_13 : decode cX6_stands 13 = .ok (.aload_n 0, 1) := by decide +kernel
theorem dX6_stands_14 : decode cX6_stands 14 = .ok (.getfield 9, 3) := by decide +kernel
theorem dX6_stands_17 : decode cX6_stands 17 = .ok (.iload_n 2, 1) := by decide +kernel
theorem dX6_stands_18 : decode cX6_stands 18 = .ok (.invokestatic 22, 3) := by decide +kernel
theorem dX6_stands_21 : decode cX6_stands 21 = .ok (.aload_n 0, 1) := by decide +kernel
theorem dX6_stands_22 : decode cX6_stands 22 = .ok (.getfield 9, 3) := by decide +kernel
theorem dX6_stands_25 : decode cX6_stands 25 = .ok (.iload_n 2, 1) := by decide +kernel
theorem dX6_stands_26 : decode cX6_stands 26 = .ok (.iconst 1, 1) := by decide +kernel
theorem dX6_stands_27 : decode cX6_stands 27 = .ok (.iadd, 1) := by decide +kernel
theorem dX6_stands_28 : decode cX6_stands 28 = .ok (.invokestatic 22, 3) := by decide +kernel
theorem dX6_stands_31 : decode cX6_stands 31 = .ok (.invokevirtual 38, 3) := by decide +kernel
theorem dX6_stands_34 : decode cX6_stands 34 = .ok (.ifCond .ne 5, 3) := by decide +kernel
theorem dX6_stands_37 : decode cX6_stands 37 = .ok (.iconst 0, 1) := by decide +kernel
theorem dX6_stands_38 : decode cX6_stands 38 = .ok (.ireturn, 1) := by decide +kernel
theorem dX6_stands_39 : decode cX6_stands 39 = .ok (.iinc 2 1, 3) := by decide +kernel
theorem dX6_stands_42 : decode cX6_stands 42 = .ok (.goto (-40), 3) := by decide +kernel
theorem dX6_stands_45 : decode cX6_stands 45 = .ok (.iconst 1, 1) := by decide +kernel
theorem dX6_stands_46 : decode cX6_stands 46 = .ok (.ireturn, 1) := by decide +kernel
theorem dX6_number_0 : decode cX6_number 0 = .ok (.iconst 0, 1) := by decide +kernel
theorem dX6_number_1 : decode cX6_number 1 = .ok (.istore_n 1, 1) := by decide +kernel
theorem dX6_number_2 : decode cX6_number 2 = .ok (.iconst 0, 1) := by decide +kernel
theorem dX6_number_3 : decode cX6_number 3 = .ok (.istore_n 2, 1) := by decide +kernel
theorem dX6_number_4 : decode cX6_number 4 = .ok (.iload_n 2, 1) := by decide +kernel
theorem dX6_number_5 : decode cX6_number 5 = .ok (.aload_n 0, 1) := by decide +kernel
theorem dX6_number_6 : decode cX6_number 6 = .ok (.getfield 15, 3) := by decide +kernel
theorem dX6_number_9 : decode cX6_number 9 = .ok (.if_icmp .ge 23, 3) := by decide +kernel
theorem dX6_number_12 : decode cX6_number 12 = .ok (.iload_n 1, 1) := by decide +kernel
theorem dX6_number_13 : decode cX6_number 13 = .ok (.bipush 10, 2) := by decide +kernel
theorem dX6_number_15 : decode cX6_number 15 = .ok (.imul, 1) := by decide +kernel
theorem dX6_number_16 : decode cX6_number 16 = .ok (.aload_n 0, 1) := by decide +kernel
theorem dX6_number_17 : decode cX6_number 17 = .ok (.getfield 9, 3) := by decide +kernel
theorem dX6_number_20 : decode cX6_number 20 = .ok (.iload_n 2, 1) := by decide +kernel
theorem dX6_number_21 : decode cX6_number 21 = .ok (.invokestatic 22, 3) := by decide +kernel
theorem dX6_number_24 : decode cX6_number 24 = .ok (.iadd, 1) := by decide +kernel
theorem dX6_number_25 : decode cX6_number 25 = .ok (.istore_n 1, 1) := by decide +kernel
theorem dX6_number_26 : decode cX6_number 26 = .ok (.iinc 2 1, 3) := by decide +kernel
theorem dX6_number_29 : decode cX6_number 29 = .ok (.goto (-25), 3) := by decide +kernel
theorem dX6_number_32 : decode cX6_number 32 = .ok (.iload_n 1, 1) := by decide +kernel
theorem dX6_number_33 : decode cX6_number 33 = .ok (.ireturn, 1) := by decide +kernel
theorem dX6_roundedOff_0 : decode cX6_roundedOff 0 = .ok (.iload_n 2, 1) := by decide +kernel
theorem dX6_roundedOff_1 : decode cX6_roundedOff 1 = .ok (.i2l, 1) := by decide +kernel
theorem dX6_roundedOff_2 : decode cX6_roundedOff 2 = .ok (.lstore 4, 2) := by decide +kernel
theorem dX6_roundedOff_4 : decode cX6_roundedOff 4 = .ok (.lconst 0, 1) := by decide +kernel
theorem dX6_roundedOff_5 : decode cX6_roundedOff 5 = .ok (.lstore 6, 2) := by decide +kernel
theorem dX6_roundedOff_7 : decode cX6_roundedOff 7 = .ok (.iconst 0, 1) := by decide +kernel
theorem dX6_roundedOff_8 : decode cX6_roundedOff 8 = .ok (.istore 8, 2) := by decide +kernel
theorem dX6_roundedOff_10 : decode cX6_roundedOff 10 = .ok (.iload 8, 2) := by decide +kernel
theorem dX6_roundedOff_12 : decode cX6_roundedOff 12 = .ok (.aload_n 0, 1) := by decide +kernel
theorem dX6_roundedOff_13 : decode cX6_roundedOff 13 = .ok (.getfield 15, 3) := by decide +kernel
theorem dX6_roundedOff_16 : decode cX6_roundedOff 16 = .ok (.iconst 1, 1) := by decide +kernel
theorem dX6_roundedOff_17 : decode cX6_roundedOff 17 = .ok (.isub, 1) := by decide +kernel
theorem dX6_roundedOff_18 : decode cX6_roundedOff 18 = .ok (.if_icmp .ge 96, 3) := by decide +kernel
theorem dX6_roundedOff_21 : decode cX6_roundedOff 21 = .ok (.aload_n 1, 1) := by decide +kernel
theorem dX6_roundedOff_22 : decode cX6_roundedOff 22 = .ok (.aload_n 0, 1) := by decide +kernel
theorem dX6_roundedOff_23 : decode cX6_roundedOff 23 = .ok (.getfield 9, 3) := by decide +kernel
theorem dX6_roundedOff_26 : decode cX6_roundedOff 26 = .ok (.iload 8, 2) := by decide +kernel
theorem dX6_roundedOff_28 : decode cX6_roundedOff 28 = .ok (.invokestatic 22, 3) := by decide +kernel
theorem dX6_roundedOff_31 : decode cX6_roundedOff 31 = .ok (.aload_n 0, 1) := by decide +kernel
theorem dX6_roundedOff_32 : decode cX6_roundedOff 32 = .ok (.getfield 9, 3) := by decide +kernel
theorem dX6_roundedOff_35 : decode cX6_roundedOff 35 = .ok (.iload 8, 2) := by decide +kernel
theorem dX6_roundedOff_37 : decode cX6_roundedOff 37 = .ok (.iconst 1, 1) := by decide +kernel
theorem dX6_roundedOff_38 : decode cX6_roundedOff 38 = .ok (.iadd, 1) := by decide +kernel
theorem dX6_roundedOff_39 : decode cX6_roundedOff 39 = .ok (.invokestatic 22, 3) := by decide +kernel
theorem dX6_roundedOff_42 : decode cX6_roundedOff 42 = .ok (.invokevirtual 44, 3) := by decide +kernel
theorem dX6_roundedOff_45 : decode cX6_roundedOff 45 = .ok (.istore 9, 2) := by decide +kernel
theorem dX6_roundedOff_47 : decode cX6_roundedOff 47 = .ok (.aload_n 1, 1) := by decide +kernel
theorem dX6_roundedOff_48 : decode cX6_roundedOff 48 = .ok (.aload_n 0, 1) := by decide +kernel
theorem dX6_roundedOff_49 : decode cX6_roundedOff 49 = .ok (.getfield 9, 3) := by decide +kernel
theorem dX6_roundedOff_52 : decode cX6_roundedOff 52 = .ok (.iload 8, 2) := by decide +kernel
theorem dX6_roundedOff_54 : decode cX6_roundedOff 54 = .ok (.iconst 1, 1) := by decide +kernel
theorem dX6_roundedOff_55 : decode cX6_roundedOff 55 = .ok (.iadd, 1) := by decide +kernel
theorem dX6_roundedOff_56 : decode cX6_roundedOff 56 = .ok (.invokestatic 22, 3) := by decide +kernel
theorem dX6_roundedOff_59 : decode cX6_roundedOff 59 = .ok (.aload_n 0, 1) := by decide +kernel
theorem dX6_roundedOff_60 : decode cX6_roundedOff 60 = .ok (.getfield 9, 3) := by decide +kernel
theorem dX6_roundedOff_63 : decode cX6_roundedOff 63 = .ok (.iload 8, 2) := by decide +kernel
theorem dX6_roundedOff_65 : decode cX6_roundedOff 65 = .ok (.invokestatic 22, 3) := by decide +kernel
theorem dX6_roundedOff_68 : decode cX6_roundedOff 68 = .ok (.invokevirtual 44, 3) := by decide +kernel
theorem dX6_roundedOff_71 : decode cX6_roundedOff 71 = .ok (.istore 10, 2) := by decide +kernel
theorem dX6_roundedOff_73 : decode cX6_roundedOff 73 = .ok (.lload 4, 2) := by decide +kernel
theorem dX6_roundedOff_75 : decode cX6_roundedOff 75 = .ok (.iload 9, 2) := by decide +kernel
theorem dX6_roundedOff_77 : decode cX6_roundedOff 77 = .ok (.iload 10, 2) := by decide +kernel
theorem dX6_roundedOff_79 : decode cX6_roundedOff 79 = .ok (.iload_n 3, 1) := by decide +kernel
theorem dX6_roundedOff_80 : decode cX6_roundedOff 80 = .ok (.invokestatic 48, 3) := by decide +kernel
theorem dX6_roundedOff_83 : decode cX6_roundedOff 83 = .ok (.lstore 11, 2) := by decide +kernel
theorem dX6_roundedOff_85 : decode cX6_roundedOff 85 = .ok (.lload 6, 2) := by decide +kernel
theorem dX6_roundedOff_87 : decode cX6_roundedOff 87 = .ok (.lload 4, 2) := by decide +kernel
theorem dX6_roundedOff_89 : decode cX6_roundedOff 89 = .ok (.lload 11, 2) := by decide +kernel
theorem dX6_roundedOff_91 : decode cX6_roundedOff 91 = .ok (.iload 9, 2) := by decide +kernel
theorem dX6_roundedOff_93 : decode cX6_roundedOff 93 = .ok (.iload 10, 2) := by decide +kernel
theorem dX6_roundedOff_95 : decode cX6_roundedOff 95 = .ok (.invokestatic 52, 3) := by decide +kernel
theorem dX6_roundedOff_98 : decode cX6_roundedOff 98 = .ok (.invokestatic 56, 3) := by decide +kernel
theorem dX6_roundedOff_101 : decode cX6_roundedOff 101 = .ok (.ladd, 1) := by decide +kernel
theorem dX6_roundedOff_102 : decode cX6_roundedOff 102 = .ok (.lstore 6, 2) := by decide +kernel
theorem dX6_roundedOff_104 : decode cX6_roundedOff 104 = .ok (.lload 11, 2) := by decide +kernel
theorem dX6_roundedOff_106 : decode cX6_roundedOff 106 = .ok (.lstore 4, 2) := by decide +kernel
theorem dX6_roundedOff_108 : decode cX6_roundedOff 108 = .ok (.iinc 8 1, 3) := by decide +kernel
theorem dX6_roundedOff_111 : decode cX6_roundedOff 111 = .ok (.goto (-101), 3) := by decide +kernel
theorem dX6_roundedOff_114 : decode cX6_roundedOff 114 = .ok (.lload 6, 2) := by decide +kernel
theorem dX6_roundedOff_116 : decode cX6_roundedOff 116 = .ok (.lreturn, 1) := by decide +kernel
theorem dX6_product_0 : decode cX6_product 0 = .ok (.lconst 1, 1) := by decide +kernel
theorem dX6_product_1 : decode cX6_product 1 = .ok (.lstore_n 3, 1) := by decide +kernel
theorem dX6_product_2 : decode cX6_product 2 = .ok (.iconst 0, 1) := by decide +kernel
theorem dX6_product_3 : decode cX6_product 3 = .ok (.istore 5, 2) := by decide +kernel
theorem dX6_product_5 : decode cX6_product 5 = .ok (.iload 5, 2) := by decide +kernel
theorem dX6_product_7 : decode cX6_product 7 = .ok (.aload_n 0, 1) := by decide +kernel
theorem dX6_product_8 : decode cX6_product 8 = .ok (.getfield 15, 3) := by decide +kernel
theorem dX6_product_11 : decode cX6_product 11 = .ok (.iconst 1, 1) := by decide +kernel
theorem dX6_product_12 : decode cX6_product 12 = .ok (.isub, 1) := by decide +kernel
theorem dX6_product_13 : decode cX6_product 13 = .ok (.if_icmp .ge 61, 3) := by decide +kernel
theorem dX6_product_16 : decode cX6_product 16 = .ok (.aload_n 0, 1) := by decide +kernel
theorem dX6_product_17 : decode cX6_product 17 = .ok (.getfield 9, 3) := by decide +kernel
theorem dX6_product_20 : decode cX6_product 20 = .ok (.iload 5, 2) := by decide +kernel
theorem dX6_product_22 : decode cX6_product 22 = .ok (.invokestatic 22, 3) := by decide +kernel
theorem dX6_product_25 : decode cX6_product 25 = .ok (.istore 6, 2) := by decide +kernel
theorem dX6_product_27 : decode cX6_product 27 = .ok (.aload_n 0, 1) := by decide +kernel
theorem dX6_product_28 : decode cX6_product 28 = .ok (.getfield 9, 3) := by decide +kernel
theorem dX6_product_31 : decode cX6_product 31 = .ok (.iload 5, 2) := by decide +kernel
theorem dX6_product_33 : decode cX6_product 33 = .ok (.iconst 1, 1) := by decide +kernel
theorem dX6_product_34 : decode cX6_product 34 = .ok (.iadd, 1) := by decide +kernel
theorem dX6_product_35 : decode cX6_product 35 = .ok (.invokestatic 22, 3) := by decide +kernel
theorem dX6_product_38 : decode cX6_product 38 = .ok (.istore 7, 2) := by decide +kernel
theorem dX6_product_40 : decode cX6_product 40 = .ok (.lload_n 3, 1) := by decide +kernel
theorem dX6_product_41 : decode cX6_product 41 = .ok (.iload_n 2, 1) := by decide +kernel
theorem dX6_product_42 : decode cX6_product 42 = .ok (.ifCond .eq 15, 3) := by decide +kernel
theorem dX6_product_45 : decode cX6_product 45 = .ok (.aload_n 1, 1) := by decide +kernel
theorem dX6_product_46 : decode cX6_product 46 = .ok (.iload 6, 2) := by decide +kernel
theorem dX6_product_48 : decode cX6_product 48 = .ok (.iload 7, 2) := by decide +kernel
theorem dX6_product_50 : decode cX6_product 50 = .ok (.invokevirtual 44, 3) := by decide +kernel
theorem dX6_product_53 : decode cX6_product 53 = .ok (.i2l, 1) := by decide +kernel
theorem dX6_product_54 : decode cX6_product 54 = .ok (.goto 12, 3) := by decide +kernel
theorem dX6_product_57 : decode cX6_product 57 = .ok (.aload_n 1, 1) := by decide +kernel
theorem dX6_product_58 : decode cX6_product 58 = .ok (.iload 7, 2) := by decide +kernel
theorem dX6_product_60 : decode cX6_product 60 = .ok (.iload 6, 2) := by decide +kernel
theorem dX6_product_62 : decode cX6_product 62 = .ok (.invokevirtual 44, 3) := by decide +kernel
theorem dX6_product_65 : decode cX6_product 65 = .ok (.i2l, 1) := by decide +kernel
theorem dX6_product_66 : decode cX6_product 66 = .ok (.lmul, 1) := by decide +kernel
theorem dX6_product_67 : decode cX6_product 67 = .ok (.lstore_n 3, 1) := by decide +kernel
theorem dX6_product_68 : decode cX6_product 68 = .ok (.iinc 5 1, 3) := by decide +kernel
theorem dX6_product_71 : decode cX6_product 71 = .ok (.goto (-66), 3) := by decide +kernel
theorem dX6_product_74 : decode cX6_product 74 = .ok (.lload_n 3, 1) := by decide +kernel
theorem dX6_product_75 : decode cX6_product 75 = .ok (.lreturn, 1) := by decide +kernel
theorem dX7_init_0 : decode cX7_init 0 = .ok (.aload_n 0, 1) := by decide +kernel
theorem dX7_init_1 : decode cX7_init 1 = .ok (.invokespecial 3, 3) := by decide +kernel
theorem dX7_init_4 : decode cX7_init 4 = .ok (.aload_n 0, 1) := by decide +kernel
theorem dX7_init_5 : decode cX7_init 5 = .ok (.iconst 5, 1) := by decide +kernel
theorem dX7_init_6 : decode cX7_init 6 = .ok (.newarray .int, 2) := by decide +kernel
theorem dX7_init_8 : decode cX7_init 8 = .ok (.putfield 9, 3) := by decide +kernel
theorem dX7_init_11 : decode cX7_init 11 = .ok (.iconst 0, 1) := by decide +kernel
theorem dX7_init_12 : decode cX7_init 12 = .ok (.istore_n 1, 1) := by decide +kernel
theorem dX7_init_13 : decode cX7_init 13 = .ok (.iload_n 1, 1) := by decide +kernel
theorem dX7_init_14 : decode cX7_init 14 = .ok (.iconst 5, 1) := by decide +kernel
theorem dX7_init_15 : decode cX7_init 15 = .ok (.if_icmp .ge 19, 3) := by decide +kernel
theorem dX7_init_18 : decode cX7_init 18 = .ok (.aload_n 0, 1) := by decide +kernel
theorem dX7_init_19 : decode cX7_init 19 = .ok (.getfield 9, 3) := by decide +kernel
theorem dX7_init_22 : decode cX7_init 22 = .ok (.iload_n 1, 1) := by decide +kernel
theorem dX7_init_23 : decode cX7_init 23 = .ok (.bipush 36, 2) := by decide +kernel
theorem dX7_init_25 : decode cX7_init 25 = .ok (.invokestatic 15, 3) := by decide +kernel
theorem dX7_init_28 : decode cX7_init 28 = .ok (.iinc 1 1, 3) := by decide +kernel
theorem dX7_init_31 : decode cX7_init 31 = .ok (.goto (-18), 3) := by decide +kernel
theorem dX7_init_34 : decode cX7_init 34 = .ok (.aload_n 0, 1) := by decide +kernel
theorem dX7_init_35 : decode cX7_init 35 = .ok (.iconst 3, 1) := by decide +kernel
theorem dX7_init_36 : decode cX7_init 36 = .ok (.newarray .int, 2) := by decide +kernel
theorem dX7_init_38 : decode cX7_init 38 = .ok (.putfield 19, 3) := by decide +kernel
theorem dX7_init_41 : decode cX7_init 41 = .ok (.aload_n 0, 1) := by decide +kernel
theorem dX7_init_42 : decode cX7_init 42 = .ok (.getfield 19, 3) := by decide +kernel
theorem dX7_init_45 : decode cX7_init 45 = .ok (.iconst 2, 1) := by decide +kernel
theorem dX7_init_46 : decode cX7_init 46 = .ok (.iconst 4, 1) := by decide +kernel
theorem dX7_init_47 : decode cX7_init 47 = .ok (.invokestatic 15, 3) := by decide +kernel
theorem dX7_init_50 : decode cX7_init 50 = .ok (.aload_n 0, 1) := by decide +kernel
theorem dX7_init_51 : decode cX7_init 51 = .ok (.new 22, 3) := by decide +kernel
theorem dX7_init_54 : decode cX7_init 54 = .ok (.dup, 1) := by decide +kernel
theorem dX7_init_55 : decode cX7_init 55 = .ok (.invokespecial 24, 3) := by decide +kernel
theorem dX7_init_58 : decode cX7_init 58 = .ok (.putfield 25, 3) := by decide +kernel
theorem dX7_init_61 : decode cX7_init 61 = .ok (.aload_n 0, 1) := by decide +kernel
theorem dX7_init_62 : decode cX7_init 62 = .ok (.new 29, 3) := by decide +kernel
theorem dX7_init_65 : decode cX7_init 65 = .ok (.dup, 1) := by decide +kernel
theorem dX7_init_66 : decode cX7_init 66 = .ok (.invokespecial 31, 3) := by decide +kernel
theorem dX7_init_69 : decode cX7_init 69 = .ok (.putfield 32, 3) := by decide +kernel
theorem dX7_init_72 : decode cX7_init 72 = .ok (.aload_n 0, 1) := by decide +kernel
theorem dX7_init_73 : decode cX7_init 73 = .ok (.iconst 0, 1) := by decide +kernel
theorem dX7_init_74 : decode cX7_init 74 = .ok (.putfield 36, 3) := by decide +kernel
theorem dX7_init_77 : decode cX7_init 77 = .ok (.aload_n 0, 1) := by decide +kernel
theorem dX7_init_78 : decode cX7_init 78 = .ok (.iconst 0, 1) := by decide +kernel
theorem dX7_init_79 : decode cX7_init 79 = .ok (.putfield 40, 3) := by decide +kernel
theorem dX7_init_82 : decode cX7_init 82 = .ok (.return_, 1) := by decide +kernel
theorem dX7_copy_0 : decode cX7_copy 0 = .ok (.aload_n 1, 1) := by decide +kernel
theorem dX7_copy_1 : decode cX7_copy 1 = .ok (.getfield 9, 3) := by decide +kernel
theorem dX7_copy_4 : decode cX7_copy 4 = .ok (.aload_n 0, 1) := by decide +kernel
theorem dX7_copy_5 : decode cX7_copy 5 = .ok (.getfield 9, 3) := by decide +kernel
theorem dX7_copy_8 : decode cX7_copy 8 = .ok (.invokestatic 43, 3) := by decide +kernel
theorem dX7_copy_11 : decode cX7_copy 11 = .ok (.aload_n 1, 1) := by decide +kernel
theorem dX7_copy_12 : decode cX7_copy 12 = .ok (.getfield 19, 3) := by decide +kernel
theorem dX7_copy_15 : decode cX7_copy 15 = .ok (.aload_n 0, 1) := by decide +kernel
theorem dX7_copy_16 : decode cX7_copy 16 = .ok (.getfield 19, 3) := by decide +kernel
theorem dX7_copy_19 : decode cX7_copy 19 = .ok (.invokestatic 43, 3) := by decide +kernel
theorem dX7_copy_22 : decode cX7_copy 22 = .ok (.aload_n 0, 1) := by decide +kernel
theorem dX7_copy_23 : decode cX7_copy 23 = .ok (.getfield 25, 3) := by decide +kernel
theorem dX7_copy_26 : decode cX7_copy 26 = .ok (.aload_n 1, 1) := by decide +kernel
theorem dX7_copy_27 : decode cX7_copy 27 = .ok (.getfield 25, 3) := by decide +kernel
theorem dX7_copy_30 : decode cX7_copy 30 = .ok (.invokevirtual 47, 3) := by decide +kernel
theorem dX7_copy_33 : decode cX7_copy 33 = .ok (.aload_n 0, 1) := by decide +kernel
theorem dX7_copy_34 : decode cX7_copy 34 = .ok (.getfield 32, 3) := by decide +kernel
theorem dX7_copy_37 : decode cX7_copy 37 = .ok (.aload_n 1, 1) := by decide +kernel
theorem dX7_copy_38 : decode cX7_copy 38 = .ok (.getfield 32, 3) := by decide +kernel
theorem dX7_copy_41 : decode cX7_copy 41 = .ok (.invokevirtual 51, 3) := by decide +kernel
theorem dX7_copy_44 : decode cX7_copy 44 = .ok (.aload_n 0, 1) := by decide +kernel
theorem dX7_copy_45 : decode cX7_copy 45 = .ok (.aload_n 1, 1) := by decide +kernel
theorem dX7_copy_46 : decode cX7_copy 46 = .ok (.getfield 36, 3) := by decide +kernel
theorem dX7_copy_49 : decode cX7_copy 49 = .ok (.putfield 36, 3) := by decide +kernel
theorem dX7_copy_52 : decode cX7_copy 52 = .ok (.aload_n 0, 1) := by decide +kernel
theorem dX7_copy_53 : decode cX7_copy 53 = .ok (.aload_n 1, 1) := by decide +kernel
theorem dX7_copy_54 : decode cX7_copy 54 = .ok (.getfield 40, 3) := by decide +kernel
theorem dX7_copy_57 : decode cX7_copy 57 = .ok (.putfield 40, 3) := by decide +kernel
theorem dX7_copy_60 : decode cX7_copy 60 = .ok (.return_, 1) := by decide +kernel
theorem dJ6_bitCount_0f7a4_0 : decode cJ6_bitCount_0f7a4 0 = .ok (.iload_n 0, 1) := by decide +kernel
theorem dJ6_bitCount_0f7a4_1 : decode cJ6_bitCount_0f7a4 1 = .ok (.iload_n 0, 1) := by decide +kernel
theorem dJ6_bitCount_0f7a4_2 : decode cJ6_bitCount_0f7a4 2 = .ok (.iconst 1, 1) := by decide +kernel
theorem dJ6_bitCount_0f7a4_3 : decode cJ6_bitCount_0f7a4 3 = .ok (.iushr, 1) := by decide +kernel
theorem dJ6_bitCount_0f7a4_4 : decode cJ6_bitCount_0f7a4 4 = .ok (.ldc_w 265, 3) := by decide +kernel
theorem dJ6_bitCount_0f7a4_7 : decode cJ6_bitCount_0f7a4 7 = .ok (.iand, 1) := by decide +kernel
theorem dJ6_bitCount_0f7a4_8 : decode cJ6_bitCount_0f7a4 8 = .ok (.isub, 1) := by decide +kernel
theorem dJ6_bitCount_0f7a4_9 : decode cJ6_bitCount_0f7a4 9 = .ok (.istore_n 0, 1) := by decide +kernel
theorem dJ6_bitCount_0f7a4_10 : decode cJ6_bitCount_0f7a4 10 = .ok (.iload_n 0, 1) := by decide +kernel
theorem dJ6_bitCount_0f7a4_11 : decode cJ6_bitCount_0f7a4 11 = .ok (.ldc_w 266, 3) := by decide +kernel
theorem dJ6_bitCount_0f7a4_14 : decode cJ6_bitCount_0f7a4 14 = .ok (.iand, 1) := by decide +kernel
theorem dJ6_bitCount_0f7a4_15 : decode cJ6_bitCount_0f7a4 15 = .ok (.iload_n 0, 1) := by decide +kernel
theorem dJ6_bitCount_0f7a4_16 : decode cJ6_bitCount_0f7a4 16 = .ok (.iconst 2, 1) := by decide +kernel
theorem dJ6_bitCount_0f7a4_17 : decode cJ6_bitCount_0f7a4 17 = .ok (.iushr, 1) := by decide +kernel
theorem dJ6_bitCount_0f7a4_18 : decode cJ6_bitCount_0f7a4 18 = .ok (.ldc_w 266, 3) := by decide +kernel
theorem dJ6_bitCount_0f7a4_21 : decode cJ6_bitCount_0f7a4 21 = .ok (.iand, 1) := by decide +kernel
theorem dJ6_bitCount_0f7a4_22 : decode cJ6_bitCount_0f7a4 22 = .ok (.iadd, 1) := by decide +kernel
theorem dJ6_bitCount_0f7a4_23 : decode cJ6_bitCount_0f7a4 23 = .ok (.istore_n 0, 1) := by decide +kernel
theorem dJ6_bitCount_0f7a4_24 : decode cJ6_bitCount_0f7a4 24 = .ok (.iload_n 0, 1) := by decide +kernel
theorem dJ6_bitCount_0f7a4_25 : decode cJ6_bitCount_0f7a4 25 = .ok (.iload_n 0, 1) := by decide +kernel
theorem dJ6_bitCount_0f7a4_26 : decode cJ6_bitCount_0f7a4 26 = .ok (.iconst 4, 1) := by decide +kernel
theorem dJ6_bitCount_0f7a4_27 : decode cJ6_bitCount_0f7a4 27 = .ok (.iushr, 1) := by decide +kernel
theorem dJ6_bitCount_0f7a4_28 : decode cJ6_bitCount_0f7a4 28 = .ok (.iadd, 1) := by decide +kernel
theorem dJ6_bitCount_0f7a4_29 : decode cJ6_bitCount_0f7a4 29 = .ok (.ldc_w 267, 3) := by decide +kernel
theorem dJ6_bitCount_0f7a4_32 : decode cJ6_bitCount_0f7a4 32 = .ok (.iand, 1) := by decide +kernel
theorem dJ6_bitCount_0f7a4_33 : decode cJ6_bitCount_0f7a4 33 = .ok (.istore_n 0, 1) := by decide +kernel
theorem dJ6_bitCount_0f7a4_34 : decode cJ6_bitCount_0f7a4 34 = .ok (.iload_n 0, 1) := by decide +kernel
theorem dJ6_bitCount_0f7a4_35 : decode cJ6_bitCount_0f7a4 35 = .ok (.iload_n 0, 1) := by decide +kernel
theorem dJ6_bitCount_0f7a4_36 : decode cJ6_bitCount_0f7a4 36 = .ok (.bipush 8, 2) := by decide +kernel
theorem dJ6_bitCount_0f7a4_38 : decode cJ6_bitCount_0f7a4 38 = .ok (.iushr, 1) := by decide +kernel
theorem dJ6_bitCount_0f7a4_39 : decode cJ6_bitCount_0f7a4 39 = .ok (.iadd, 1) := by decide +kernel
theorem dJ6_bitCount_0f7a4_40 : decode cJ6_bitCount_0f7a4 40 = .ok (.istore_n 0, 1) := by decide +kernel
theorem dJ6_bitCount_0f7a4_41 : decode cJ6_bitCount_0f7a4 41 = .ok (.iload_n 0, 1) := by decide +kernel
theorem dJ6_bitCount_0f7a4_42 : decode cJ6_bitCount_0f7a4 42 = .ok (.iload_n 0, 1) := by decide +kernel
theorem dJ6_bitCount_0f7a4_43 : decode cJ6_bitCount_0f7a4 43 = .ok (.bipush 16, 2) := by decide +kernel
theorem dJ6_bitCount_0f7a4_45 : decode cJ6_bitCount_0f7a4 45 = .ok (.iushr, 1) := by decide +kernel
theorem dJ6_bitCount_0f7a4_46 : decode cJ6_bitCount_0f7a4 46 = .ok (.iadd, 1) := by decide +kernel
theorem dJ6_bitCount_0f7a4_47 : decode cJ6_bitCount_0f7a4 47 = .ok (.istore_n 0, 1) := by decide +kernel
theorem dJ6_bitCount_0f7a4_48 : decode cJ6_bitCount_0f7a4 48 = .ok (.iload_n 0, 1) := by decide +kernel
theorem dJ6_bitCount_0f7a4_49 : decode cJ6_bitCount_0f7a4 49 = .ok (.bipush 63, 2) := by decide +kernel
theorem dJ6_bitCount_0f7a4_51 : decode cJ6_bitCount_0f7a4 51 = .ok (.iand, 1) := by decide +kernel
theorem dJ6_bitCount_0f7a4_52 : decode cJ6_bitCount_0f7a4 52 = .ok (.ireturn, 1) := by decide +kernel
theorem dJ9_floorDiv_f86c9_0 : decode cJ9_floorDiv_f86c9 0 = .ok (.lload_n 0, 1) := by decide +kernel
theorem dJ9_floorDiv_f86c9_1 : decode cJ9_floorDiv_f86c9 1 = .ok (.lload_n 2, 1) := by decide +kernel
theorem dJ9_floorDiv_f86c9_2 : decode cJ9_floorDiv_f86c9 2 = .ok (.ldiv, 1) := by decide +kernel
theorem dJ9_floorDiv_f86c9_3 : decode cJ9_floorDiv_f86c9 3 = .ok (.lstore 4, 2) := by decide +kernel
theorem dJ9_floorDiv_f86c9_5 : decode cJ9_floorDiv_f86c9 5 = .ok (.lload_n 0, 1) := by decide +kernel
theorem dJ9_floorDiv_f86c9_6 : decode cJ9_floorDiv_f86c9 6 = .ok (.lload_n 2, 1) := by decide +kernel
theorem dJ9_floorDiv_f86c9_7 : decode cJ9_floorDiv_f86c9 7 = .ok (.lxor, 1) := by decide +kernel
theorem dJ9_floorDiv_f86c9_8 : decode cJ9_floorDiv_f86c9 8 = .ok (.lconst 0, 1) := by decide +kernel
theorem dJ9_floorDiv_f86c9_9 : decode cJ9_floorDiv_f86c9 9 = .ok (.lcmp, 1) := by decide +kernel
theorem dJ9_floorDiv_f86c9_10 : decode cJ9_floorDiv_f86c9 10 = .ok (.ifCond .ge 17, 3) := by decide +kernel
theorem dJ9_floorDiv_f86c9_13 : decode cJ9_floorDiv_f86c9 13 = .ok (.lload 4, 2) := by decide +kernel
theorem dJ9_floorDiv_f86c9_15 : decode cJ9_floorDiv_f86c9 15 = .ok (.lload_n 2, 1) := by decide +kernel
theorem dJ9_floorDiv_f86c9_16 : decode cJ9_floorDiv_f86c9 16 = .ok (.lmul, 1) := by decide +kernel
theorem dJ9_floorDiv_f86c9_17 : decode cJ9_floorDiv_f86c9 17 = .ok (.lload_n 0, 1) := by decide +kernel
theorem dJ9_floorDiv_f86c9_18 : decode cJ9_floorDiv_f86c9 18 = .ok (.lcmp, 1) := by decide +kernel
theorem dJ9_floorDiv_f86c9_19 : decode cJ9_floorDiv_f86c9 19 = .ok (.ifCond .eq 8, 3) := by decide +kernel
theorem dJ9_floorDiv_f86c9_22 : decode cJ9_floorDiv_f86c9 22 = .ok (.lload 4, 2) := by decide +kernel
theorem dJ9_floorDiv_f86c9_24 : decode cJ9_floorDiv_f86c9 24 = .ok (.lconst 1, 1) := by decide +kernel
theorem dJ9_floorDiv_f86c9_25 : decode cJ9_floorDiv_f86c9 25 = .ok (.lsub, 1) := by decide +kernel
theorem dJ9_floorDiv_f86c9_26 : decode cJ9_floorDiv_f86c9 26 = .ok (.lreturn, 1) := by decide +kernel
theorem dJ9_floorDiv_f86c9_27 : decode cJ9_floorDiv_f86c9 27 = .ok (.lload 4, 2) := by decide +kernel
theorem dJ9_floorDiv_f86c9_29 : decode cJ9_floorDiv_f86c9 29 = .ok (.lreturn, 1) := by decide +kernel
theorem dJ9_abs_067f4_0 : decode cJ9_abs_067f4 0 = .ok (.lload_n 0, 1) := by decide +kernel
theorem dJ9_abs_067f4_1 : decode cJ9_abs_067f4 1 = .ok (.lconst 0, 1) := by decide +kernel
theorem dJ9_abs_067f4_2 : decode cJ9_abs_067f4 2 = .ok (.lcmp, 1) := by decide +kernel
theorem dJ9_abs_067f4_3 : decode cJ9_abs_067f4 3 = .ok (.ifCond .ge 8, 3) := by decide +kernel
theorem dJ9_abs_067f4_6 : decode cJ9_abs_067f4 6 = .ok (.lload_n 0, 1) := by decide +kernel
theorem dJ9_abs_067f4_7 : decode cJ9_abs_067f4 7 = .ok (.lneg, 1) := by decide +kernel
theorem dJ9_abs_067f4_8 : decode cJ9_abs_067f4 8 = .ok (.goto 4, 3) := by decide +kernel
theorem dJ9_abs_067f4_11 : decode cJ9_abs_067f4 11 = .ok (.lload_n 0, 1) := by decide +kernel
theorem dJ9_abs_067f4_12 : decode cJ9_abs_067f4 12 = .ok (.lreturn, 1) := by decide +kernel
theorem dJ9_max_7cf53_0 : decode cJ9_max_7cf53 0 = .ok (.iload_n 0, 1) := by decide +kernel
theorem dJ9_max_7cf53_1 : decode cJ9_max_7cf53 1 = .ok (.iload_n 1, 1) := by decide +kernel
theorem dJ9_max_7cf53_2 : decode cJ9_max_7cf53 2 = .ok (.if_icmp .lt 7, 3) := by decide +kernel
theorem dJ9_max_7cf53_5 : decode cJ9_max_7cf53 5 = .ok (.iload_n 0, 1) := by decide +kernel
theorem dJ9_max_7cf53_6 : decode cJ9_max_7cf53 6 = .ok (.goto 4, 3) := by decide +kernel
theorem dJ9_max_7cf53_9 : decode cJ9_max_7cf53 9 = .ok (.iload_n 1, 1) := by decide +kernel
theorem dJ9_max_7cf53_10 : decode cJ9_max_7cf53 10 = .ok (.ireturn, 1) := by decide +kernel
theorem dJ9_max_f86c9_0 : decode cJ9_max_f86c9 0 = .ok (.lload_n 0, 1) := by decide +kernel
theorem dJ9_max_f86c9_1 : decode cJ9_max_f86c9 1 = .ok (.lload_n 2, 1) := by decide +kernel
theorem dJ9_max_f86c9_2 : decode cJ9_max_f86c9 2 = .ok (.lcmp, 1) := by decide +kernel
theorem dJ9_max_f86c9_3 : decode cJ9_max_f86c9 3 = .ok (.ifCond .lt 7, 3) := by decide +kernel
theorem dJ9_max_f86c9_6 : decode cJ9_max_f86c9 6 = .ok (.lload_n 0, 1) := by decide +kernel
theorem dJ9_max_f86c9_7 : decode cJ9_max_f86c9 7 = .ok (.goto 4, 3) := by decide +kernel
theorem dJ9_max_f86c9_10 : decode cJ9_max_f86c9 10 = .ok (.lload_n 2, 1) := by decide +kernel
theorem dJ9_max_f86c9_11 : decode cJ9_max_f86c9 11 = .ok (.lreturn, 1) := by decide +kernel
theorem dJ9_min_7cf53_0 : decode cJ9_min_7cf53 0 = .ok (.iload_n 0, 1) := by decide +kernel
theorem dJ9_min_7cf53_1 : decode cJ9_min_7cf53 1 = .ok (.iload_n 1, 1) := by decide +kernel
theorem dJ9_min_7cf53_2 : decode cJ9_min_7cf53 2 = .ok (.if_icmp .gt 7, 3) := by decide +kernel
theorem dJ9_min_7cf53_5 : decode cJ9_min_7cf53 5 = .ok (.iload_n 0, 1) := by decide +kernel
theorem dJ9_min_7cf53_6 : decode cJ9_min_7cf53 6 = .ok (.goto 4, 3) := by decide +kernel
theorem dJ9_min_7cf53_9 : decode cJ9_min_7cf53 9 = .ok (.iload_n 1, 1) := by decide +kernel
theorem dJ9_min_7cf53_10 : decode cJ9_min_7cf53 10 = .ok (.ireturn, 1) := by decide +kernel
theorem dJ9_min_f86c9_0 : decode cJ9_min_f86c9 0 = .ok (.lload_n 0, 1) := by decide +kernel
theorem dJ9_min_f86c9_1 : decode cJ9_min_f86c9 1 = .ok (.lload_n 2, 1) := by decide +kernel
theorem dJ9_min_f86c9_2 : decode cJ9_min_f86c9 2 = .ok (.lcmp, 1) := by decide +kernel
theorem dJ9_min_f86c9_3 : decode cJ9_min_f86c9 3 = .ok (.ifCond .gt 7, 3) := by decide +kernel
theorem dJ9_min_f86c9_6 : decode cJ9_min_f86c9 6 = .ok (.lload_n 0, 1) := by decide +kernel
theorem dJ9_min_f86c9_7 : decode cJ9_min_f86c9 7 = .ok (.goto 4, 3) := by decide +kernel
theorem dJ9_min_f86c9_10 : decode cJ9_min_f86c9 10 = .ok (.lload_n 2, 1) := by decide +kernel
theorem dJ9_min_f86c9_11 : decode cJ9_min_f86c9 11 = .ok (.lreturn, 1) := by decide +kernel
