theorem dX8_init_0 : decode cX8_init 0 = .ok (.aload_n 0, 1) := by decide +kernel
theorem dX8_init_1 : decode cX8_init 1 = .ok (.invokespecial 1, 3) := by decide +kernel
theorem dX8_init_4 : decode cX8_init 4 = .ok (.aload_n 0, 1) := by decide +kernel
theorem dX8_init_5 : decode cX8_init 5 = .ok (.new 7, 3) := by decide +kernel
theorem dX8_init_8 : decode cX8_init 8 = .ok (.dup, 1) := by decide +kernel
theorem dX8_init_9 : decode cX8_init 9 = .ok (.invokespecial 9, 3) := by decide +kernel
theorem dX8_init_12 : decode cX8_init 12 = .ok (.putfield 10, 3) := by decide +kernel
theorem dX8_init_15 : decode cX8_init 15 = .ok (.aload_n 0, 1) := by decide +kernel
theorem dX8_init_16 : decode cX8_init 16 = .ok (.new 7, 3) := by decide +kernel
theorem dX8_init_19 : decode cX8_init 19 = .ok (.dup, 1) := by decide +kernel
theorem dX8_init_20 : decode cX8_init 20 = .ok (.invokespecial 9, 3) := by decide +kernel
theorem dX8_init_23 : decode cX8_init 23 = .ok (.putfield 16, 3) := by decide +kernel
theorem dX8_init_26 : decode cX8_init 26 = .ok (.aload_n 0, 1) := by decide +kernel
theorem dX8_init_27 : decode cX8_init 27 = .ok (.new 19, 3) := by decide +kernel
theorem dX8_init_30 : decode cX8_init 30 = .ok (.dup, 1) := by decide +kernel
theorem dX8_init_31 : decode cX8_init 31 = .ok (.invokespecial 21, 3) := by decide +kernel
theorem dX8_init_34 : decode cX8_init 34 = .ok (.putfield 22, 3) := by decide +kernel
theorem dX8_init_37 : decode cX8_init 37 = .ok (.aload_n 0, 1) := by decide +kernel
theorem dX8_init_38 : decode cX8_init 38 = .ok (.new 26, 3) := by decide +kernel
theorem dX8_init_41 : decode cX8_init 41 = .ok (.dup, 1) := by decide +kernel
theorem dX8_init_42 : decode cX8_init 42 = .ok (.invokespecial 28, 3) := by decide +kernel
theorem dX8_init_45 : decode cX8_init 45 = .ok (.putfield 29, 3) := by decide +kernel
theorem dX8_init_48 : decode cX8_init 48 = .ok (.aload_n 0, 1) := by decide +kernel
theorem dX8_init_49 : decode cX8_init 49 = .ok (.new 33, 3) := by decide +kernel
theorem dX8_init_52 : decode cX8_init 52 = .ok (.dup, 1) := by decide +kernel
theorem dX8_init_53 : decode cX8_init 53 = .ok (.invokespecial 35, 3) := by decide +kernel
theorem dX8_init_56 : decode cX8_init 56 = .ok (.putfield 36, 3) := by decide +kernel
theorem dX8_init_59 : decode cX8_init 59 = .ok (.aload_n 0, 1) := by decide +kernel
theorem dX8_init_60 : decode cX8_init 60 = .ok (.new 40, 3) := by decide +kernel
theorem dX8_init_63 : decode cX8_init 63 = .ok (.dup, 1) := by decide +kernel
theorem dX8_init_64 : decode cX8_init 64 = .ok (.invokespecial 42, 3) := by decide +kernel
theorem dX8_init_67 : decode cX8_init 67 = .ok (.putfield 43, 3) := by decide +kernel
theorem dX8_init_70 : decode cX8_init 70 = .ok (.aload_n 0, 1) := by decide +kernel
theorem dX8_init_71 : decode cX8_init 71 = .ok (.new 47, 3) := by decide +kernel
theorem dX8_init_74 : decode cX8_init 74 = .ok (.dup, 1) := by decide +kernel
theorem dX8_init_75 : decode cX8_init 75 = .ok (.invokespecial 49, 3) := by decide +kernel
theorem dX8_init_78 : decode cX8_init 78 = .ok (.putfield 50, 3) := by decide +kernel
theorem dX8_init_81 : decode cX8_init 81 = .ok (.aload_n 0, 1) := by decide +kernel
theorem dX8_init_82 : decode cX8_init 82 = .ok (.iconst 4, 1) := by decide +kernel
theorem dX8_init_83 : decode cX8_init 83 = .ok (.newarray .int, 2) := by decide +kernel
theorem dX8_init_85 : decode cX8_init 85 = .ok (.putfield 54, 3) := by decide +kernel
theorem dX8_init_88 : decode cX8_init 88 = .ok (.aload_n 0, 1) := by decide +kernel
theorem dX8_init_89 : decode cX8_init 89 = .ok (.iconst 0, 1) := by decide +kernel
theorem dX8_init_90 : decode cX8_init 90 = .ok (.putfield 58, 3) := by decide +kernel
theorem dX8_init_93 : decode cX8_init 93 = .ok (.return_, 1) := by decide +kernel
theorem dX8_stick_0 : decode cX8_stick 0 = .ok (.iload_n 1, 1) := by decide +kernel
theorem dX8_stick_1 : decode cX8_stick 1 = .ok (.invokestatic 62, 3) := by decide +kernel
theorem dX8_stick_4 : decode cX8_stick 4 = .ok (.iload_n 2, 1) := by decide +kernel
theorem dX8_stick_5 : decode cX8_stick 5 = .ok (.bipush 20, 2) := by decide +kernel
theorem dX8_stick_7 : decode cX8_stick 7 = .ok (.bipush 60, 2) := by decide +kernel
theorem dX8_stick_9 : decode cX8_stick 9 = .ok (.invokestatic 66, 3) := by decide +kernel
theorem dX8_stick_12 : decode cX8_stick 12 = .ok (.aload_n 0, 1) := by decide +kernel
theorem dX8_stick_13 : decode cX8_stick 13 = .ok (.getfield 22, 3) := by decide +kernel
theorem dX8_stick_16 : decode cX8_stick 16 = .ok (.aload_n 0, 1) := by decide +kernel
theorem dX8_stick_17 : decode cX8_stick 17 = .ok (.getfield 10, 3) := by decide +kernel
theorem dX8_stick_20 : decode cX8_stick 20 = .ok (.invokevirtual 70, 3) := by decide +kernel
theorem dX8_stick_23 : decode cX8_stick 23 = .ok (.aload_n 0, 1) := by decide +kernel
theorem dX8_stick_24 : decode cX8_stick 24 = .ok (.getfield 10, 3) := by decide +kernel
theorem dX8_stick_27 : decode cX8_stick 27 = .ok (.getfield 74, 3) := by decide +kernel
theorem dX8_stick_30 : decode cX8_stick 30 = .ok (.iload_n 1, 1) := by decide +kernel
theorem dX8_stick_31 : decode cX8_stick 31 = .ok (.invokestatic 77, 3) := by decide +kernel
theorem dX8_stick_34 : decode cX8_stick 34 = .ok (.istore_n 3, 1) := by decide +kernel
theorem dX8_stick_35 : decode cX8_stick 35 = .ok (.aload_n 0, 1) := by decide +kernel
theorem dX8_stick_36 : decode cX8_stick 36 = .ok (.getfield 10, 3) := by decide +kernel
theorem dX8_stick_39 : decode cX8_stick 39 = .ok (.getfield 74, 3) := by decide +kernel
theorem dX8_stick_42 : decode cX8_stick 42 = .ok (.iload_n 1, 1) := by decide +kernel
theorem dX8_stick_43 : decode cX8_stick 43 = .ok (.iload_n 2, 1) := by decide +kernel
theorem dX8_stick_44 : decode cX8_stick 44 = .ok (.invokestatic 81, 3) := by decide +kernel
theorem dX8_stick_47 : decode cX8_stick 47 = .ok (.iload_n 3, 1) := by decide +kernel
theorem dX8_stick_48 : decode cX8_stick 48 = .ok (.ireturn, 1) := by decide +kernel
theorem dX8_table_0 : decode cX8_table 0 = .ok (.iload_n 1, 1) := by decide +kernel
theorem dX8_table_1 : decode cX8_table 1 = .ok (.iload_n 2, 1) := by decide +kernel
theorem dX8_table_2 : decode cX8_table 2 = .ok (.invokestatic 85, 3) := by decide +kernel
theorem dX8_table_5 : decode cX8_table 5 = .ok (.iload_n 3, 1) := by decide +kernel
theorem dX8_table_6 : decode cX8_table 6 = .ok (.iconst 1, 1) := by decide +kernel
theorem dX8_table_7 : decode cX8_table 7 = .ok (.bipush 99, 2) := by decide +kernel
theorem dX8_table_9 : decode cX8_table 9 = .ok (.invokestatic 66, 3) := by decide +kernel
theorem dX8_table_12 : decode cX8_table 12 = .ok (.iload 4, 2) := by decide +kernel
theorem dX8_table_14 : decode cX8_table 14 = .ok (.iconst 1, 1) := by decide +kernel
theorem dX8_table_15 : decode cX8_table 15 = .ok (.bipush 99, 2) := by decide +kernel
theorem dX8_table_17 : decode cX8_table 17 = .ok (.invokestatic 66, 3) := by decide +kernel
theorem dX8_table_20 : decode cX8_table 20 = .ok (.aload_n 0, 1) := by decide +kernel
theorem dX8_table_21 : decode cX8_table 21 = .ok (.getfield 36, 3) := by decide +kernel
theorem dX8_table_24 : decode cX8_table 24 = .ok (.aload_n 0, 1) := by decide +kernel
theorem dX8_table_25 : decode cX8_table 25 = .ok (.getfield 10, 3) := by decide +kernel
theorem dX8_table_28 : decode cX8_table 28 = .ok (.getfield 89, 3) := by decide +kernel
theorem dX8_table_31 : decode cX8_table 31 = .ok (.iload_n 1, 1) := by decide +kernel
theorem dX8_table_32 : decode cX8_table 32 = .ok (.iload_n 2, 1) := by decide +kernel
theorem dX8_table_33 : decode cX8_table 33 = .ok (.iload_n 3, 1) := by decide +kernel
theorem dX8_table_34 : decode cX8_table 34 = .ok (.iload 4, 2) := by decide +kernel
theorem dX8_table_36 : decode cX8_table 36 = .ok (.aload_n 0, 1) := by decide +kernel
theorem dX8_table_37 : decode cX8_table 37 = .ok (.invokevirtual 93, 3) := by decide +kernel
theorem dX8_table_40 : decode cX8_table 40 = .ok (.invokevirtual 97, 3) := by decide +kernel
theorem dX8_table_43 : decode cX8_table 43 = .ok (.ifCond .lt 13, 3) := by decide +kernel
theorem dX8_table_46 : decode cX8_table 46 = .ok (.new 101, 3) := by decide +kernel
theorem dX8_table_49 : decode cX8_table 49 = .ok (.dup, 1) := by decide +kernel
theorem dX8_table_50 : decode cX8_table 50 = .ok (.ldc 103, 2) := by decide +kernel
theorem dX8_table_52 : decode cX8_table 52 = .ok (.invokespecial 105, 3) := by decide +kernel
theorem dX8_table_55 : decode cX8_table 55 = .ok (.athrow, 1) := by decide +kernel
theorem dX8_table_56 : decode cX8_table 56 = .ok (.aload_n 0, 1) := by decide +kernel
theorem dX8_table_57 : decode cX8_table 57 = .ok (.getfield 22, 3) := by decide +kernel
theorem dX8_table_60 : decode cX8_table 60 = .ok (.aload_n 0, 1) := by decide +kernel
theorem dX8_table_61 : decode cX8_table 61 = .ok (.getfield 10, 3) := by decide +kernel
theorem dX8_table_64 : decode cX8_table 64 = .ok (.invokevirtual 70, 3) := by decide +kernel
theorem dX8_table_67 : decode cX8_table 67 = .ok (.aload_n 0, 1) := by decide +kernel
theorem dX8_table_68 : decode cX8_table 68 = .ok (.getfield 10, 3) := by decide +kernel
theorem dX8_table_71 : decode cX8_table 71 = .ok (.getfield 89, 3) := by decide +kernel
theorem dX8_table_74 : decode cX8_table 74 = .ok (.iload_n 1, 1) := by decide +kernel
theorem dX8_table_75 : decode cX8_table 75 = .ok (.iload_n 2, 1) := by decide +kernel
theorem dX8_table_76 : decode cX8_table 76 = .ok (.iload_n 3, 1) := by decide +kernel
theorem dX8_table_77 : decode cX8_table 77 = .ok (.iload 4, 2) := by decide +kernel
theorem dX8_table_79 : decode cX8_table 79 = .ok (.invokevirtual 108, 3) := by decide +kernel
theorem dX8_table_82 : decode cX8_table 82 = .ok (.aload_n 0, 1) := by decide +kernel
theorem dX8_table_83 : decode cX8_table 83 = .ok (.getfield 36, 3) := by decide +kernel
theorem dX8_table_86 : decode cX8_table 86 = .ok (.aload_n 0, 1) := by decide +kernel
theorem dX8_table_87 : decode cX8_table 87 = .ok (.getfield 10, 3) := by decide +kernel
theorem dX8_table_90 : decode cX8_table 90 = .ok (.getfield 89, 3) := by decide +kernel
theorem dX8_table_93 : decode cX8_table 93 = .ok (.invokevirtual 114, 3) := by decide +kernel
theorem dX8_table_96 : decode cX8_table 96 = .ok (.ireturn, 1) := by decide +kernel
theorem dX8_drop_0 : decode cX8_drop 0 = .ok (.iload_n 1, 1) := by decide +kernel
theorem dX8_drop_1 : decode cX8_drop 1 = .ok (.invokestatic 62, 3) := by decide +kernel
theorem dX8_drop_4 : decode cX8_drop 4 = .ok (.iload_n 2, 1) := by decide +kernel
theorem dX8_drop_5 : decode cX8_drop 5 = .ok (.invokestatic 62, 3) := by decide +kernel
theorem dX8_drop_8 : decode cX8_drop 8 = .ok (.aload_n 0, 1) := by decide +kernel
theorem dX8_drop_9 : decode cX8_drop 9 = .ok (.getfield 10, 3) := by decide +kernel
theorem dX8_drop_12 : decode cX8_drop 12 = .ok (.getfield 89, 3) := by decide +kernel
theorem dX8_drop_15 : decode cX8_drop 15 = .ok (.iload_n 1, 1) := by decide +kernel
theorem dX8_drop_16 : decode cX8_drop 16 = .ok (.iload_n 2, 1) := by decide +kernel
theorem dX8_drop_17 : decode cX8_drop 17 = .ok (.invokevirtual 118, 3) := by decide +kernel
theorem dX8_drop_20 : decode cX8_drop 20 = .ok (.ifCond .ne 13, 3) := by decide +kernel
theorem dX8_drop_23 : decode cX8_drop 23 = .ok (.new 101, 3) := by decide +kernel
theorem dX8_drop_26 : decode cX8_drop 26 = .ok (.dup, 1) := by decide +kernel
theorem dX8_drop_27 : decode cX8_drop 27 = .ok (.ldc 122, 2) := by decide +kernel
theorem dX8_drop_29 : decode cX8_drop 29 = .ok (.invokespecial 105, 3) := by decide +kernel
theorem dX8_drop_32 : decode cX8_drop 32 = .ok (.athrow, 1) := by decide +kernel
theorem dX8_drop_33 : decode cX8_drop 33 = .ok (.aload_n 0, 1) := by decide +kernel
theorem dX8_drop_34 : decode cX8_drop 34 = .ok (.getfield 22, 3) := by decide +kernel
theorem dX8_drop_37 : decode cX8_drop 37 = .ok (.aload_n 0, 1) := by decide +kernel
theorem dX8_drop_38 : decode cX8_drop 38 = .ok (.getfield 10, 3) := by decide +kernel
theorem dX8_drop_41 : decode cX8_drop 41 = .ok (.invokevirtual 70, 3) := by decide +kernel
theorem dX8_drop_44 : decode cX8_drop 44 = .ok (.aload_n 0, 1) := by decide +kernel
theorem dX8_drop_45 : decode cX8_drop 45 = .ok (.getfield 10, 3) := by decide +kernel
theorem dX8_drop_48 : decode cX8_drop 48 = .ok (.getfield 89, 3) := by decide +kernel
theorem dX8_drop_51 : decode cX8_drop 51 = .ok (.iload_n 1, 1) := by decide +kernel
theorem dX8_drop_52 : decode cX8_drop 52 = .ok (.iload_n 2, 1) := by decide +kernel
theorem dX8_drop_53 : decode cX8_drop 53 = .ok (.iconst 0, 1) := by decide +kernel
theorem dX8_drop_54 : decode cX8_drop 54 = .ok (.iconst 0, 1) := by decide +kernel
theorem dX8_drop_55 : decode cX8_drop 55 = .ok (.invokevirtual 108, 3) := by decide +kernel
theorem dX8_drop_58 : decode cX8_drop 58 = .ok (.aload_n 0, 1) := by decide +kernel
theorem dX8_drop_59 : decode cX8_drop 59 = .ok (.getfield 36, 3) := by decide +kernel
theorem dX8_drop_62 : decode cX8_drop 62 = .ok (.aload_n 0, 1) := by decide +kernel
theorem dX8_drop_63 : decode cX8_drop 63 = .ok (.getfield 10, 3) := by decide +kernel
theorem dX8_drop_66 : decode cX8_drop 66 = .ok (.getfield 89, 3) := by decide +kernel
theorem dX8_drop_69 : decode cX8_drop 69 = .ok (.invokevirtual 114, 3) := by decide +kernel
theorem dX8_drop_72 : decode cX8_drop 72 = .ok (.ireturn, 1) := by decide +kernel
theorem dX8_set_0 : decode cX8_set 0 = .ok (.iload_n 1, 1) := by decide +kernel
theorem dX8_set_1 : decode cX8_set 1 = .ok (.ifCond .lt 8, 3) := by decide +kernel
theorem dX8_set_4 : decode cX8_set 4 = .ok (.iload_n 1, 1) := by decide +kernel
theorem dX8_set_5 : decode cX8_set 5 = .ok (.iconst 3, 1) := by decide +kernel
theorem dX8_set_6 : decode cX8_set 6 = .ok (.if_icmp .lt 13, 3) := by decide +kernel
theorem dX8_set_9 : decode cX8_set 9 = .ok (.new 124, 3) := by decide +kernel
theorem dX8_set_12 : decode cX8_set 12 = .ok (.dup, 1) := by decide +kernel
theorem dX8_set_13 : decode cX8_set 13 = .ok (.ldc 126, 2) := by decide +kernel
theorem dX8_set_15 : decode cX8_set 15 = .ok (.invokespecial 128, 3) := by decide +kernel
theorem dX8_set_18 : decode cX8_set 18 = .ok (.athrow, 1) := by decide +kernel
theorem dX8_set_19 : decode cX8_set 19 = .ok (.iload_n 2, 1) := by decide +kernel
theorem dX8_set_20 : decode cX8_set 20 = .ok (.iload_n 1, 1) := by decide +kernel
theorem dX8_set_21 : decode cX8_set 21 = .ok (.invokestatic 129, 3) := by decide +kernel
theorem dX8_set_24 : decode cX8_set 24 = .ok (.iload_n 1, 1) := by decide +kernel
theorem dX8_set_25 : decode cX8_set 25 = .ok (.invokestatic 133, 3) := by decide +kernel
theorem dX8_set_28 : decode cX8_set 28 = .ok (.invokestatic 66, 3) := by decide +kernel
theorem dX8_set_31 : decode cX8_set 31 = .ok (.aload_n 0, 1) := by decide +kernel
theorem dX8_set_32 : decode cX8_set 32 = .ok (.getfield 22, 3) := by decide +kernel
theorem dX8_set_35 : decode cX8_set 35 = .ok (.aload_n 0, 1) := by decide +kernel
theorem dX8_set_36 : decode cX8_set 36 = .ok (.getfield 10, 3) := by decide +kernel
theorem dX8_set_39 : decode cX8_set 39 = .ok (.invokevirtual 70, 3) := by decide +kernel
theorem dX8_set_42 : decode cX8_set 42 = .ok (.aload_n 0, 1) := by decide +kernel
theorem dX8_set_43 : decode cX8_set 43 = .ok (.getfield 10, 3) := by decide +kernel
theorem dX8_set_46 : decode cX8_set 46 = .ok (.getfield 136, 3) := by decide +kernel
theorem dX8_set_49 : decode cX8_set 49 = .ok (.iload_n 1, 1) := by decide +kernel
theorem dX8_set_50 : decode cX8_set 50 = .ok (.invokestatic 77, 3) := by decide +kernel
theorem dX8_set_53 : decode cX8_set 53 = .ok (.istore_n 3, 1) := by decide +kernel
theorem dX8_set_54 : decode cX8_set 54 = .ok (.aload_n 0, 1) := by decide +kernel
theorem dX8_set_55 : decode cX8_set 55 = .ok (.getfield 10, 3) := by decide +kernel
theorem dX8_set_58 : decode cX8_set 58 = .ok (.getfield 136, 3) := by decide +kernel
theorem dX8_set_61 : decode cX8_set 61 = .ok (.iload_n 1, 1) := by decide +kernel
theorem dX8_set_62 : decode cX8_set 62 = .ok (.iload_n 2, 1) := by decide +kernel
theorem dX8_set_63 : decode cX8_set 63 = .ok (.invokestatic 81, 3) := by decide +kernel
theorem dX8_set_66 : decode cX8_set 66 = .ok (.iload_n 3, 1) := by decide +kernel
theorem dX8_set_67 : decode cX8_set 67 = .ok (.ireturn, 1) := by decide +kernel
theorem dX8_bolt_0 : decode cX8_bolt 0 = .ok (.iload_n 1, 1) := by decide +kernel
theorem dX8_bolt_1 : decode cX8_bolt 1 = .ok (.invokestatic 62, 3) := by decide +kernel
theorem dX8_bolt_4 : decode cX8_bolt 4 = .ok (.iload_n 2, 1) := by decide +kernel
theorem dX8_bolt_5 : decode cX8_bolt 5 = .ok (.iconst 1, 1) := by decide +kernel
theorem dX8_bolt_6 : decode cX8_bolt 6 = .ok (.sipush 9999, 3) := by decide +kernel
theorem dX8_bolt_9 : decode cX8_bolt 9 = .ok (.invokestatic 66, 3) := by decide +kernel
theorem dX8_bolt_12 : decode cX8_bolt 12 = .ok (.aload_n 0, 1) := by decide +kernel
theorem dX8_bolt_13 : decode cX8_bolt 13 = .ok (.getfield 10, 3) := by decide +kernel
theorem dX8_bolt_16 : decode cX8_bolt 16 = .ok (.getfield 139, 3) := by decide +kernel
theorem dX8_bolt_19 : decode cX8_bolt 19 = .ok (.getfield 143, 3) := by decide +kernel
theorem dX8_bolt_22 : decode cX8_bolt 22 = .ok (.bipush 8, 2) := by decide +kernel
theorem dX8_bolt_24 : decode cX8_bolt 24 = .ok (.if_icmp .lt 13, 3) := by decide +kernel
theorem dX8_bolt_27 : decode cX8_bolt 27 = .ok (.new 101, 3) := by decide +kernel
theorem dX8_bolt_30 : decode cX8_bolt 30 = .ok (.dup, 1) := by decide +kernel
theorem dX8_bolt_31 : decode cX8_bolt 31 = .ok (.ldc 149, 2) := by decide +kernel
theorem dX8_bolt_33 : decode cX8_bolt 33 = .ok (.invokespecial 105, 3) := by decide +kernel
theorem dX8_bolt_36 : decode cX8_bolt 36 = .ok (.athrow, 1) := by decide +kernel
theorem dX8_bolt_37 : decode cX8_bolt 37 = .ok (.aload_n 0, 1) := by decide +kernel
theorem dX8_bolt_38 : decode cX8_bolt 38 = .ok (.getfield 22, 3) := by decide +kernel
theorem dX8_bolt_41 : decode cX8_bolt 41 = .ok (.aload_n 0, 1) := by decide +kernel
theorem dX8_bolt_42 : decode cX8_bolt 42 = .ok (.getfield 10, 3) := by decide +kernel
theorem dX8_bolt_45 : decode cX8_bolt 45 = .ok (.invokevirtual 70, 3) := by decide +kernel
theorem dX8_bolt_48 : decode cX8_bolt 48 = .ok (.aload_n 0, 1) := by decide +kernel
theorem dX8_bolt_49 : decode cX8_bolt 49 = .ok (.getfield 10, 3) := by decide +kernel
theorem dX8_bolt_52 : decode cX8_bolt 52 = .ok (.getfield 139, 3) := by decide +kernel
theorem dX8_bolt_55 : decode cX8_bolt 55 = .ok (.iload_n 1, 1) := by decide +kernel
theorem dX8_bolt_56 : decode cX8_bolt 56 = .ok (.iload_n 2, 1) := by decide +kernel
theorem dX8_bolt_57 : decode cX8_bolt 57 = .ok (.invokevirtual 151, 3) := by decide +kernel
theorem dX8_bolt_60 : decode cX8_bolt 60 = .ok (.aload_n 0, 1) := by decide +kernel
theorem dX8_bolt_61 : decode cX8_bolt 61 = .ok (.getfield 10, 3) := by decide +kernel
theorem dX8_bolt_64 : decode cX8_bolt 64 = .ok (.getfield 139, 3) := by decide +kernel
theorem dX8_bolt_67 : decode cX8_bolt 67 = .ok (.getfield 143, 3) := by decide +kernel
theorem dX8_bolt_70 : decode cX8_bolt 70 = .ok (.iconst 1, 1) := by decide +kernel
theorem dX8_bolt_71 : decode cX8_bolt 71 = .ok (.isub, 1) := by decide +kernel
theorem dX8_bolt_72 : decode cX8_bolt 72 = .ok (.ireturn, 1) := by decide +kernel
theorem dX8_send_0 : decode cX8_send 0 = .ok (.aload_n 0, 1) := by decide +kernel
theorem dX8_send_1 : decode cX8_send 1 = .ok (.iload_n 1, 1) := by decide +kernel
theorem dX8_send_2 : decode cX8_send 2 = .ok (.invokevirtual 154, 3) := by decide +kernel
theorem dX8_send_5 : decode cX8_send 5 = .ok (.iload_n 2, 1) := by decide +kernel
theorem dX8_send_6 : decode cX8_send 6 = .ok (.invokestatic 62, 3) := by decide +kernel
theorem dX8_send_9 : decode cX8_send 9 = .ok (.aload_n 0, 1) := by decide +kernel
theorem dX8_send_10 : decode cX8_send 10 = .ok (.iload_n 1, 1) := by decide +kernel
theorem dX8_send_11 : decode cX8_send 11 = .ok (.iload_n 2, 1) := by decide +kernel
theorem dX8_send_12 : decode cX8_send 12 = .ok (.invokevirtual 157, 3) := by decide +kernel
theorem dX8_send_15 : decode cX8_send 15 = .ok (.ifCond .eq 13, 3) := by decide +kernel
theorem dX8_send_18 : decode cX8_send 18 = .ok (.new 101, 3) := by decide +kernel
theorem dX8_send_21 : decode cX8_send 21 = .ok (.dup, 1) := by decide +kernel
theorem dX8_send_22 : decode cX8_send 22 = .ok (.ldc 161, 2) := by decide +kernel
theorem dX8_send_24 : decode cX8_send 24 = .ok (.invokespecial 105, 3) := by decide +kernel
theorem dX8_send_27 : decode cX8_send 27 = .ok (.athrow, 1) := by decide +kernel
theorem dX8_send_28 : decode cX8_send 28 = .ok (.aload_n 0, 1) := by decide +kernel
theorem dX8_send_29 : decode cX8_send 29 = .ok (.getfield 22, 3) := by decide +kernel
theorem dX8_send_32 : decode cX8_send 32 = .ok (.aload_n 0, 1) := by decide +kernel
theorem dX8_send_33 : decode cX8_send 33 = .ok (.getfield 10, 3) := by decide +kernel
theorem dX8_send_36 : decode cX8_send 36 = .ok (.invokevirtual 70, 3) := by decide +kernel
theorem dX8_send_39 : decode cX8_send 39 = .ok (.aload_n 0, 1) := by decide +kernel
theorem dX8_send_40 : decode cX8_send 40 = .ok (.iload_n 1, 1) := by decide +kernel
theorem dX8_send_41 : decode cX8_send 41 = .ok (.iload_n 2, 1) := by decide +kernel
theorem dX8_send_42 : decode cX8_send 42 = .ok (.invokevirtual 163, 3) := by decide +kernel
theorem dX8_send_45 : decode cX8_send 45 = .ok (.aload_n 0, 1) := by decide +kernel
theorem dX8_send_46 : decode cX8_send 46 = .ok (.getfield 10, 3) := by decide +kernel
theorem dX8_send_49 : decode cX8_send 49 = .ok (.getfield 139, 3) := by decide +kernel
theorem dX8_send_52 : decode cX8_send 52 = .ok (.getfield 166, 3) := by decide +kernel
theorem dX8_send_55 : decode cX8_send 55 = .ok (.iload_n 1, 1) := by decide +kernel
theorem dX8_send_56 : decode cX8_send 56 = .ok (.invokestatic 77, 3) := by decide +kernel
theorem dX8_send_59 : decode cX8_send 59 = .ok (.ireturn, 1) := by decide +kernel
theorem dX8_sell_0 : decode cX8_sell 0 = .ok (.aload_n 0, 1) := by decide +kernel
theorem dX8_sell_1 : decode cX8_sell 1 = .ok (.iload_n 1, 1) := by decide +kernel
theorem dX8_sell_2 : decode cX8_sell 2 = .ok (.invokevirtual 154, 3) := by decide +kernel
theorem dX8_sell_5 : decode cX8_sell 5 = .ok (.aload_n 0, 1) := by decide +kernel
theorem dX8_sell_6 : decode cX8_sell 6 = .ok (.getfield 22, 3) := by decide +kernel
theorem dX8_sell_9 : decode cX8_sell 9 = .ok (.aload_n 0, 1) := by decide +kernel
theorem dX8_sell_10 : decode cX8_sell 10 = .ok (.getfield 10, 3) := by decide +kernel
theorem dX8_sell_13 : decode cX8_sell 13 = .ok (.invokevirtual 70, 3) := by decide +kernel
theorem dX8_sell_16 : decode cX8_sell 16 = .ok (.aload_n 0, 1) := by decide +kernel
theorem dX8_sell_17 : decode cX8_sell 17 = .ok (.getfield 10, 3) := by decide +kernel
theorem dX8_sell_20 : decode cX8_sell 20 = .ok (.getfield 74, 3) := by decide +kernel
theorem dX8_sell_23 : decode cX8_sell 23 = .ok (.aload_n 0, 1) := by decide +kernel
theorem dX8_sell_24 : decode cX8_sell 24 = .ok (.getfield 10, 3) := by decide +kernel
theorem dX8_sell_27 : decode cX8_sell 27 = .ok (.getfield 139, 3) := by decide +kernel
theorem dX8_sell_30 : decode cX8_sell 30 = .ok (.getfield 169, 3) := by decide +kernel
theorem dX8_sell_33 : decode cX8_sell 33 = .ok (.iload_n 1, 1) := by decide +kernel
theorem dX8_sell_34 : decode cX8_sell 34 = .ok (.invokestatic 77, 3) := by decide +kernel
theorem dX8_sell_37 : decode cX8_sell 37 = .ok (.invokestatic 77, 3) := by decide +kernel
theorem dX8_sell_40 : decode cX8_sell 40 = .ok (.istore_n 2, 1) := by decide +kernel
theorem dX8_sell_41 : decode cX8_sell 41 = .ok (.aload_n 0, 1) := by decide +kernel
theorem dX8_sell_42 : decode cX8_sell 42 = .ok (.getfield 10, 3) := by decide +kernel
theorem dX8_sell_45 : decode cX8_sell 45 = .ok (.getfield 139, 3) := by decide +kernel
theorem dX8_sell_48 : decode cX8_sell 48 = .ok (.getfield 166, 3) := by decide +kernel
theorem dX8_sell_51 : decode cX8_sell 51 = .ok (.iload_n 1, 1) := by decide +kernel
theorem dX8_sell_52 : decode cX8_sell 52 = .ok (.invokestatic 77, 3) := by decide +kernel
theorem dX8_sell_55 : decode cX8_sell 55 = .ok (.istore_n 3, 1) := by decide +kernel
theorem dX8_sell_56 : decode cX8_sell 56 = .ok (.aload_n 0, 1) := by decide +kernel
theorem dX8_sell_57 : decode cX8_sell 57 = .ok (.getfield 10, 3) := by decide +kernel
theorem dX8_sell_60 : decode cX8_sell 60 = .ok (.getfield 139, 3) := by decide +kernel
theorem dX8_sell_63 : decode cX8_sell 63 = .ok (.iload_n 1, 1) := by decide +kernel
theorem dX8_sell_64 : decode cX8_sell 64 = .ok (.invokevirtual 172, 3) := by decide +kernel
theorem dX8_sell_67 : decode cX8_sell 67 = .ok (.iload_n 2, 1) := by decide +kernel
theorem dX8_sell_68 : decode cX8_sell 68 = .ok (.ifCond .le 9, 3) := by decide +kernel
theorem dX8_sell_71 : decode cX8_sell 71 = .ok (.iload_n 3, 1) := by decide +kernel
theorem dX8_sell_72 : decode cX8_sell 72 = .ok (.iload_n 2, 1) := by decide +kernel
theorem dX8_sell_73 : decode cX8_sell 73 = .ok (.idiv, 1) := by decide +kernel
theorem dX8_sell_74 : decode cX8_sell 74 = .ok (.goto 4, 3) := by decide +kernel
theorem dX8_sell_77 : decode cX8_sell 77 = .ok (.iconst 0, 1) := by decide +kernel
theorem dX8_sell_78 : decode cX8_sell 78 = .ok (.ireturn, 1) := by decide +kernel
theorem dX8_append_0 : decode cX8_append 0 = .ok (.iload_n 1, 1) := by decide +kernel
theorem dX8_append_1 : decode cX8_append 1 = .ok (.bipush 33, 2) := by decide +kernel
theorem dX8_append_3 : decode cX8_append 3 = .ok (.bipush 126, 2) := by decide +kernel
theorem dX8_append_5 : decode cX8_append 5 = .ok (.invokestatic 66, 3) := by decide +kernel
theorem dX8_append_8 : decode cX8_append 8 = .ok (.aload_n 0, 1) := by decide +kernel
theorem dX8_append_9 : decode cX8_append 9 = .ok (.getfield 29, 3) := by decide +kernel
theorem dX8_append_12 : decode cX8_append 12 = .ok (.getfield 175, 3) := by decide +kernel
theorem dX8_append_15 : decode cX8_append 15 = .ok (.bipush 60, 2) := by decide +kernel
theorem dX8_append_17 : decode cX8_append 17 = .ok (.if_icmp .lt 13, 3) := by decide +kernel
theorem dX8_append_20 : decode cX8_append 20 = .ok (.new 101, 3) := by decide +kernel
theorem dX8_append_23 : decode cX8_append 23 = .ok (.dup, 1) := by decide +kernel
theorem dX8_append_24 : decode cX8_append 24 = .ok (.ldc 178, 2) := by decide +kernel
theorem dX8_append_26 : decode cX8_append 26 = .ok (.invokespecial 105, 3) := by decide +kernel
theorem dX8_append_29 : decode cX8_append 29 = .ok (.athrow, 1) := by decide +kernel
theorem dX8_append_30 : decode cX8_append 30 = .ok (.aload_n 0, 1) := by decide +kernel
theorem dX8_append_31 : decode cX8_append 31 = .ok (.getfield 29, 3) := by decide +kernel
theorem dX8_append_34 : decode cX8_append 34 = .ok (.iload_n 1, 1) := by decide +kernel
theorem dX8_append_35 : decode cX8_append 35 = .ok (.invokevirtual 180, 3) := by decide +kernel
theorem dX8_append_38 : decode cX8_append 38 = .ok (.aload_n 0, 1) := by decide +kernel
theorem dX8_append_39 : decode cX8_append 39 = .ok (.getfield 29, 3) := by decide +kernel
theorem dX8_append_42 : decode cX8_append 42 = .ok (.getfield 175, 3) := by decide +kernel
theorem dX8_append_45 : decode cX8_append 45 = .ok (.ireturn, 1) := by decide +kernel
theorem dX8_clearBuffer_0 : decode cX8_clearBuffer 0 = .ok (.aload_n 0, 1) := by decide +kernel
theorem dX8_clearBuffer_1 : decode cX8_clearBuffer 1 = .ok (.getfield 29, 3) := by decide +kernel
theorem dX8_clearBuffer_4 : decode cX8_clearBuffer 4 = .ok (.invokevirtual 183, 3) := by decide +kernel
theorem dX8_clearBuffer_7 : decode cX8_clearBuffer 7 = .ok (.ireturn, 1) := by decide +kernel
theorem dX8_firstError_0 : decode cX8_firstError 0 = .ok (.aload_n 0, 1) := by decide +kernel
theorem dX8_firstError_1 : decode cX8_firstError 1 = .ok (.getfield 29, 3) := by decide +kernel
theorem dX8_firstError_4 : decode cX8_firstError 4 = .ok (.invokevirtual 186, 3) := by decide +kernel
theorem dX8_firstError_7 : decode cX8_firstError 7 = .ok (.ireturn, 1) := by decide +kernel
theorem dX8_work_0 : decode cX8_work 0 = .ok (.aload_n 0, 1) := by decide +kernel
theorem dX8_work_1 : decode cX8_work 1 = .ok (.getfield 29, 3) := by decide +kernel
theorem dX8_work_4 : decode cX8_work 4 = .ok (.invokevirtual 189, 3) := by decide +kernel
theorem dX8_work_7 : decode cX8_work 7 = .ok (.ifCond .ne 13, 3) := by decide +kernel
theorem dX8_work_10 : decode cX8_work 10 = .ok (.new 193, 3) := by decide +kernel
theorem dX8_work_13 : decode cX8_work 13 = .ok (.dup, 1) := by decide +kernel
theorem dX8_work_14 : decode cX8_work 14 = .ok (.ldc 195, 2) := by decide +kernel
theorem dX8_work_16 : decode cX8_work 16 = .ok (.invokespecial 197, 3) := by decide +kernel
theorem dX8_work_19 : decode cX8_work 19 = .ok (.athrow, 1) := by decide +kernel
theorem dX8_work_20 : decode cX8_work 20 = .ok (.aload_n 0, 1) := by decide +kernel
theorem dX8_work_21 : decode cX8_work 21 = .ok (.getfield 22, 3) := by decide +kernel
theorem dX8_work_24 : decode cX8_work 24 = .ok (.aload_n 0, 1) := by decide +kernel
theorem dX8_work_25 : decode cX8_work 25 = .ok (.getfield 10, 3) := by decide +kernel
theorem dX8_work_28 : decode cX8_work 28 = .ok (.invokevirtual 70, 3) := by decide +kernel
theorem dX8_work_31 : decode cX8_work 31 = .ok (.iconst 0, 1) := by decide +kernel
theorem dX8_work_32 : decode cX8_work 32 = .ok (.istore_n 1, 1) := by decide +kernel
theorem dX8_work_33 : decode cX8_work 33 = .ok (.iconst 0, 1) := by decide +kernel
theorem dX8_work_34 : decode cX8_work 34 = .ok (.istore_n 2, 1) := by decide +kernel
theorem dX8_work_35 : decode cX8_work 35 = .ok (.iconst 0, 1) := by decide +kernel
theorem dX8_work_36 : decode cX8_work 36 = .ok (.istore_n 3, 1) := by decide +kernel
theorem dX8_work_37 : decode cX8_work 37 = .ok (.iload_n 3, 1) := by decide +kernel
theorem dX8_work_38 : decode cX8_work 38 = .ok (.aload_n 0, 1) := by decide +kernel
theorem dX8_work_39 : decode cX8_work 39 = .ok (.getfield 29, 3) := by decide +kernel
theorem dX8_work_42 : decode cX8_work 42 = .ok (.getfield 175, 3) := by decide +kernel
theorem dX8_work_45 : decode cX8_work 45 = .ok (.if_icmp .ge 56, 3) := by decide +kernel
theorem dX8_work_48 : decode cX8_work 48 = .ok (.iload_n 2, 1) := by decide +kernel
theorem dX8_work_49 : decode cX8_work 49 = .ok (.ifCond .ne 52, 3) := by decide +kernel
theorem dX8_work_52 : decode cX8_work 52 = .ok (.aload_n 0, 1) := by decide +kernel
theorem dX8_work_53 : decode cX8_work 53 = .ok (.getfield 29, 3) := by decide +kernel
theorem dX8_work_56 : decode cX8_work 56 = .ok (.iload_n 3, 1) := by decide +kernel
theorem dX8_work_57 : decode cX8_work 57 = .ok (.aload_n 0, 1) := by decide +kernel
theorem dX8_work_58 : decode cX8_work 58 = .ok (.getfield 54, 3) := by decide +kernel
theorem dX8_work_61 : decode cX8_work 61 = .ok (.invokevirtual 198, 3) := by decide +kernel
theorem dX8_work_64 : decode cX8_work 64 = .ok (.istore 4, 2) := by decide +kernel
theorem dX8_work_66 : decode cX8_work 66 = .ok (.aload_n 0, 1) := by decide +kernel
theorem dX8_work_67 : decode cX8_work 67 = .ok (.aload_n 0, 1) := by decide +kernel
theorem dX8_work_68 : decode cX8_work 68 = .ok (.getfield 29, 3) := by decide +kernel
theorem dX8_work_71 : decode cX8_work 71 = .ok (.getfield 202, 3) := by decide +kernel
theorem dX8_work_74 : decode cX8_work 74 = .ok (.iload_n 3, 1) := by decide +kernel
theorem dX8_work_75 : decode cX8_work 75 = .ok (.invokestatic 77, 3) := by decide +kernel
theorem dX8_work_78 : decode cX8_work 78 = .ok (.invokevirtual 205, 3) := by decide +kernel
theorem dX8_work_81 : decode cX8_work 81 = .ok (.istore_n 2, 1) := by decide +kernel
theorem dX8_work_82 : decode cX8_work 82 = .ok (.iload_n 2, 1) := by decide +kernel
theorem dX8_work_83 : decode cX8_work 83 = .ok (.ifCond .ne 6, 3) := by decide +kernel
theorem dX8_work_86 : decode cX8_work 86 = .ok (.iinc 1 1, 3) := by decide +kernel
theorem dX8_work_89 : decode cX8_work 89 = .ok (.iload_n 3, 1) := by decide +kernel
theorem dX8_work_90 : decode cX8_work 90 = .ok (.iload 4, 2) := by decide +kernel
theorem dX8_work_92 : decode cX8_work 92 = .ok (.invokestatic 208, 3) := by decide +kernel
theorem dX8_work_95 : decode cX8_work 95 = .ok (.iconst 1, 1) := by decide +kernel
theorem dX8_work_96 : decode cX8_work 96 = .ok (.iadd, 1) := by decide +kernel
theorem dX8_work_97 : decode cX8_work 97 = .ok (.istore_n 3, 1) := by decide +kernel
theorem dX8_work_98 : decode cX8_work 98 = .ok (.goto (-61), 3) := by decide +kernel
theorem dX8_work_101 : decode cX8_work 101 = .ok (.aload_n 0, 1) := by decide +kernel
theorem dX8_work_102 : decode cX8_work 102 = .ok (.getfield 10, 3) := by decide +kernel
theorem dX8_work_105 : decode cX8_work 105 = .ok (.iload_n 1, 1) := by decide +kernel
theorem dX8_work_106 : decode cX8_work 106 = .ok (.putfield 213, 3) := by decide +kernel
theorem dX8_work_109 : decode cX8_work 109 = .ok (.aload_n 0, 1) := by decide +kernel
theorem dX8_work_110 : decode cX8_work 110 = .ok (.getfield 10, 3) := by decide +kernel
theorem dX8_work_113 : decode cX8_work 113 = .ok (.iload_n 2, 1) := by decide +kernel
theorem dX8_work_114 : decode cX8_work 114 = .ok (.putfield 216, 3) := by decide +kernel
theorem dX8_work_117 : decode cX8_work 117 = .ok (.aload_n 0, 1) := by decide +kernel
theorem dX8_work_118 : decode cX8_work 118 = .ok (.getfield 29, 3) := by decide +kernel
theorem dX8_work_121 : decode cX8_work 121 = .ok (.invokevirtual 183, 3) := by decide +kernel
theorem dX8_work_124 : decode cX8_work 124 = .ok (.pop, 1) := by decide +kernel
theorem dX8_work_125 : decode cX8_work 125 = .ok (.iload_n 1, 1) := by decide +kernel
theorem dX8_work_126 : decode cX8_work 126 = .ok (.ireturn, 1) := by decide +kernel
theorem dX8_stopped_0 : decode cX8_stopped 0 = .ok (.iload_n 1, 1) := by decide +kernel
theorem dX8_stopped_1 : decode cX8_stopped 1 = .ok (.iconst 0, 1) := by decide +kernel
theorem dX8_stopped_2 : decode cX8_stopped 2 = .ok (.iconst 1, 1) := by decide +kernel
theorem dX8_stopped_3 : decode cX8_stopped 3 = .ok (.invokestatic 66, 3) := by decide +kernel
theorem dX8_stopped_6 : decode cX8_stopped 6 = .ok (.aload_n 0, 1) := by decide +kernel
theorem dX8_stopped_7 : decode cX8_stopped 7 = .ok (.getfield 10, 3) := by decide +kernel
theorem dX8_stopped_10 : decode cX8_stopped 10 = .ok (.getfield 216, 3) := by decide +kernel
theorem dX8_stopped_13 : decode cX8_stopped 13 = .ok (.ifCond .ne 5, 3) := by decide +kernel
theorem dX8_stopped_16 : decode cX8_stopped 16 = .ok (.iconst (-1), 1) := by decide +kernel
theorem dX8_stopped_17 : decode cX8_stopped 17 = .ok (.ireturn, 1) := by decide +kernel
theorem dX8_stopped_18 : decode cX8_stopped 18 = .ok (.iload_n 1, 1) := by decide +kernel
theorem dX8_stopped_19 : decode cX8_stopped 19 = .ok (.ifCond .ne 13, 3) := by decide +kernel
theorem dX8_stopped_22 : decode cX8_stopped 22 = .ok (.aload_n 0, 1) := by decide +kernel
theorem dX8_stopped_23 : decode cX8_stopped 23 = .ok (.getfield 10, 3) := by decide +kernel
theorem dX8_stopped_26 : decode cX8_stopped 26 = .ok (.getfield 213, 3) := by decide +kernel
theorem dX8_stopped_29 : decode cX8_stopped 29 = .ok (.goto 10, 3) := by decide +kernel
theorem dX8_stopped_32 : decode cX8_stopped 32 = .ok (.aload_n 0, 1) := by decide +kernel
theorem dX8_stopped_33 : decode cX8_stopped 33 = .ok (.getfield 10, 3) := by decide +kernel
theorem dX8_stopped_36 : decode cX8_stopped 36 = .ok (.getfield 216, 3) := by decide +kernel
theorem dX8_stopped_39 : decode cX8_stopped 39 = .ok (.ireturn, 1) := by decide +kernel
theorem dX8_undo_0 : decode cX8_undo 0 = .ok (.aload_n 0, 1) := by decide +kernel
theorem dX8_undo_1 : decode cX8_undo 1 = .ok (.getfield 22, 3) := by decide +kernel
theorem dX8_undo_4 : decode cX8_undo 4 = .ok (.getfield 219, 3) := by decide +kernel
theorem dX8_undo_7 : decode cX8_undo 7 = .ok (.ifCond .gt 13, 3) := by decide +kernel
theorem dX8_undo_10 : decode cX8_undo 10 = .ok (.new 101, 3) := by decide +kernel
theorem dX8_undo_13 : decode cX8_undo 13 = .ok (.dup, 1) := by decide +kernel
theorem dX8_undo_14 : decode cX8_undo 14 = .ok (.ldc 220, 2) := by decide +kernel
theorem dX8_undo_16 : decode cX8_undo 16 = .ok (.invokespecial 105, 3) := by decide +kernel
theorem dX8_undo_19 : decode cX8_undo 19 = .ok (.athrow, 1) := by decide +kernel
theorem dX8_undo_20 : decode cX8_undo 20 = .ok (.aload_n 0, 1) := by decide +kernel
theorem dX8_undo_21 : decode cX8_undo 21 = .ok (.getfield 22, 3) := by decide +kernel
theorem dX8_undo_24 : decode cX8_undo 24 = .ok (.aload_n 0, 1) := by decide +kernel
theorem dX8_undo_25 : decode cX8_undo 25 = .ok (.getfield 10, 3) := by decide +kernel
theorem dX8_undo_28 : decode cX8_undo 28 = .ok (.invokevirtual 222, 3) := by decide +kernel
theorem dX8_undo_31 : decode cX8_undo 31 = .ok (.aload_n 0, 1) := by decide +kernel
theorem dX8_undo_32 : decode cX8_undo 32 = .ok (.getfield 22, 3) := by decide +kernel
theorem dX8_undo_35 : decode cX8_undo 35 = .ok (.getfield 219, 3) := by decide +kernel
theorem dX8_undo_38 : decode cX8_undo 38 = .ok (.ireturn, 1) := by decide +kernel
theorem dX8_keep_0 : decode cX8_keep 0 = .ok (.aload_n 0, 1) := by decide +kernel
theorem dX8_keep_1 : decode cX8_keep 1 = .ok (.getfield 16, 3) := by decide +kernel
theorem dX8_keep_4 : decode cX8_keep 4 = .ok (.aload_n 0, 1) := by decide +kernel
theorem dX8_keep_5 : decode cX8_keep 5 = .ok (.getfield 10, 3) := by decide +kernel
theorem dX8_keep_8 : decode cX8_keep 8 = .ok (.invokevirtual 225, 3) := by decide +kernel
theorem dX8_keep_11 : decode cX8_keep 11 = .ok (.aload_n 0, 1) := by decide +kernel
theorem dX8_keep_12 : decode cX8_keep 12 = .ok (.iconst 1, 1) := by decide +kernel
theorem dX8_keep_13 : decode cX8_keep 13 = .ok (.putfield 58, 3) := by decide +kernel
theorem dX8_keep_16 : decode cX8_keep 16 = .ok (.aload_n 0, 1) := by decide +kernel
theorem dX8_keep_17 : decode cX8_keep 17 = .ok (.getfield 10, 3) := by decide +kernel
theorem dX8_keep_20 : decode cX8_keep 20 = .ok (.getfield 89, 3) := by decide +kernel
theorem dX8_keep_23 : decode cX8_keep 23 = .ok (.invokevirtual 228, 3) := by decide +kernel
theorem dX8_keep_26 : decode cX8_keep 26 = .ok (.ireturn, 1) := by decide +kernel
theorem dX8_restore_0 : decode cX8_restore 0 = .ok (.aload_n 0, 1) := by decide +kernel
theorem dX8_restore_1 : decode cX8_restore 1 = .ok (.getfield 58, 3) := by decide +kernel
theorem dX8_restore_4 : decode cX8_restore 4 = .ok (.ifCond .ne 13, 3) := by decide +kernel
theorem dX8_restore_7 : decode cX8_restore 7 = .ok (.new 101, 3) := by decide +kernel
theorem dX8_restore_10 : decode cX8_restore 10 = .ok (.dup, 1) := by decide +kernel
theorem dX8_restore_11 : decode cX8_restore 11 = .ok (.ldc 230, 2) := by decide +kernel
theorem dX8_restore_13 : decode cX8_restore 13 = .ok (.invokespecial 105, 3) := by decide +kernel
theorem dX8_restore_16 : decode cX8_restore 16 = .ok (.athrow, 1) := by decide +kernel
theorem dX8_restore_17 : decode cX8_restore 17 = .ok (.aload_n 0, 1) := by decide +kernel
theorem dX8_restore_18 : decode cX8_restore 18 = .ok (.getfield 22, 3) := by decide +kernel
theorem dX8_restore_21 : decode cX8_restore 21 = .ok (.aload_n 0, 1) := by decide +kernel
theorem dX8_restore_22 : decode cX8_restore 22 = .ok (.getfield 10, 3) := by decide +kernel
theorem dX8_restore_25 : decode cX8_restore 25 = .ok (.invokevirtual 70, 3) := by decide +kernel
theorem dX8_restore_28 : decode cX8_restore 28 = .ok (.aload_n 0, 1) := by decide +kernel
theorem dX8_restore_29 : decode cX8_restore 29 = .ok (.getfield 10, 3) := by decide +kernel
theorem dX8_restore_32 : decode cX8_restore 32 = .ok (.aload_n 0, 1) := by decide +kernel
theorem dX8_restore_33 : decode cX8_restore 33 = .ok (.getfield 16, 3) := by decide +kernel
theorem dX8_restore_36 : decode cX8_restore 36 = .ok (.invokevirtual 225, 3) := by decide +kernel
theorem dX8_restore_39 : decode cX8_restore 39 = .ok (.aload_n 0, 1) := by decide +kernel
theorem dX8_restore_40 : decode cX8_restore 40 = .ok (.getfield 10, 3) := by decide +kernel
theorem dX8_restore_43 : decode cX8_restore 43 = .ok (.getfield 89, 3) := by decide +kernel
theorem dX8_restore_46 : decode cX8_restore 46 = .ok (.invokevirtual 228, 3) := by decide +kernel
theorem dX8_restore_49 : decode cX8_restore 49 = .ok (.ireturn, 1) := by decide +kernel
theorem dX8_tableOf_0 : decode cX8_tableOf 0 = .ok (.iload_n 1, 1) := by decide +kernel
theorem dX8_tableOf_1 : decode cX8_tableOf 1 = .ok (.iload_n 2, 1) := by decide +kernel
theorem dX8_tableOf_2 : decode cX8_tableOf 2 = .ok (.invokestatic 85, 3) := by decide +kernel
theorem dX8_tableOf_5 : decode cX8_tableOf 5 = .ok (.iload_n 3, 1) := by decide +kernel
theorem dX8_tableOf_6 : decode cX8_tableOf 6 = .ok (.iconst 0, 1) := by decide +kernel
theorem dX8_tableOf_7 : decode cX8_tableOf 7 = .ok (.iconst 2, 1) := by decide +kernel
theorem dX8_tableOf_8 : decode cX8_tableOf 8 = .ok (.invokestatic 66, 3) := by decide +kernel
theorem dX8_tableOf_11 : decode cX8_tableOf 11 = .ok (.iload_n 3, 1) := by decide +kernel
theorem dX8_tableOf_12 : decode cX8_tableOf 12 = .ok (.iconst 2, 1) := by decide +kernel
theorem dX8_tableOf_13 : decode cX8_tableOf 13 = .ok (.if_icmp .ne 20, 3) := by decide +kernel
theorem dX8_tableOf_16 : decode cX8_tableOf 16 = .ok (.aload_n 0, 1) := by decide +kernel
theorem dX8_tableOf_17 : decode cX8_tableOf 17 = .ok (.getfield 36, 3) := by decide +kernel
theorem dX8_tableOf_20 : decode cX8_tableOf 20 = .ok (.aload_n 0, 1) := by decide +kernel
theorem dX8_tableOf_21 : decode cX8_tableOf 21 = .ok (.getfield 10, 3) := by decide +kernel
theorem dX8_tableOf_24 : decode cX8_tableOf 24 = .ok (.getfield 89, 3) := by decide +kernel
theorem dX8_tableOf_27 : decode cX8_tableOf 27 = .ok (.iload_n 1, 1) := by decide +kernel
theorem dX8_tableOf_28 : decode cX8_tableOf 28 = .ok (.iload_n 2, 1) := by decide +kernel
theorem dX8_tableOf_29 : decode cX8_tableOf 29 = .ok (.invokevirtual 232, 3) := by decide +kernel
theorem dX8_tableOf_32 : decode cX8_tableOf 32 = .ok (.ireturn, 1) := by decide +kernel
theorem dX8_tableOf_33 : decode cX8_tableOf 33 = .ok (.aload_n 0, 1) := by decide +kernel
theorem dX8_tableOf_34 : decode cX8_tableOf 34 = .ok (.getfield 10, 3) := by decide +kernel
theorem dX8_tableOf_37 : decode cX8_tableOf 37 = .ok (.getfield 89, 3) := by decide +kernel
theorem dX8_tableOf_40 : decode cX8_tableOf 40 = .ok (.iload_n 1, 1) := by decide +kernel
theorem dX8_tableOf_41 : decode cX8_tableOf 41 = .ok (.iload_n 2, 1) := by decide +kernel
theorem dX8_tableOf_42 : decode cX8_tableOf 42 = .ok (.invokevirtual 118, 3) := by decide +kernel
theorem dX8_tableOf_45 : decode cX8_tableOf 45 = .ok (.ifCond .ne 5, 3) := by decide +kernel
theorem dX8_tableOf_48 : decode cX8_tableOf 48 = .ok (.iconst (-1), 1) := by decide +kernel
theorem dX8_tableOf_49 : decode cX8_tableOf 49 = .ok (.ireturn, 1) := by decide +kernel
theorem dX8_tableOf_50 : decode cX8_tableOf 50 = .ok (.iload_n 3, 1) := by decide +kernel
theorem dX8_tableOf_51 : decode cX8_tableOf 51 = .ok (.ifCond .ne 18, 3) := by decide +kernel
theorem dX8_tableOf_54 : decode cX8_tableOf 54 = .ok (.aload_n 0, 1) := by decide +kernel
theorem dX8_tableOf_55 : decode cX8_tableOf 55 = .ok (.getfield 10, 3) := by decide +kernel
theorem dX8_tableOf_58 : decode cX8_tableOf 58 = .ok (.getfield 89, 3) := by decide +kernel
theorem dX8_tableOf_61 : decode cX8_tableOf 61 = .ok (.iload_n 1, 1) := by decide +kernel
theorem dX8_tableOf_62 : decode cX8_tableOf 62 = .ok (.iload_n 2, 1) := by decide +kernel
theorem dX8_tableOf_63 : decode cX8_tableOf 63 = .ok (.invokevirtual 236, 3) := by decide +kernel
theorem dX8_tableOf_66 : decode cX8_tableOf 66 = .ok (.goto 15, 3) := by decide +kernel
theorem dX8_tableOf_69 : decode cX8_tableOf 69 = .ok (.aload_n 0, 1) := by decide +kernel
theorem dX8_tableOf_70 : decode cX8_tableOf 70 = .ok (.getfield 10, 3) := by decide +kernel
theorem dX8_tableOf_73 : decode cX8_tableOf 73 = .ok (.getfield 89, 3) := by decide +kernel
theorem dX8_tableOf_76 : decode cX8_tableOf 76 = .ok (.iload_n 2, 1) := by decide +kernel
theorem dX8_tableOf_77 : decode cX8_tableOf 77 = .ok (.iload_n 1, 1) := by decide +kernel
theorem dX8_tableOf_78 : decode cX8_tableOf 78 = .ok (.invokevirtual 236, 3) := by decide +kernel
theorem dX8_tableOf_81 : decode cX8_tableOf 81 = .ok (.ireturn, 1) := by decide +kernel
theorem dX8_ring_0 : decode cX8_ring 0 = .ok (.iload_n 1, 1) := by decide +kernel
theorem dX8_ring_1 : decode cX8_ring 1 = .ok (.ifCond .ge 13, 3) := by decide +kernel
theorem dX8_ring_4 : decode cX8_ring 4 = .ok (.new 193, 3) := by decide +kernel
theorem dX8_ring_7 : decode cX8_ring 7 = .ok (.dup, 1) := by decide +kernel
theorem dX8_ring_8 : decode cX8_ring 8 = .ok (.ldc 239, 2) := by decide +kernel
theorem dX8_ring_10 : decode cX8_ring 10 = .ok (.invokespecial 197, 3) := by decide +kernel
theorem dX8_ring_13 : decode cX8_ring 13 = .ok (.athrow, 1) := by decide +kernel
theorem dX8_ring_14 : decode cX8_ring 14 = .ok (.iload_n 2, 1) := by decide +kernel
theorem dX8_ring_15 : decode cX8_ring 15 = .ok (.iconst 0, 1) := by decide +kernel
theorem dX8_ring_16 : decode cX8_ring 16 = .ok (.iconst 3, 1) := by decide +kernel
theorem dX8_ring_17 : decode cX8_ring 17 = .ok (.invokestatic 66, 3) := by decide +kernel
theorem dX8_ring_20 : decode cX8_ring 20 = .ok (.aload_n 0, 1) := by decide +kernel
theorem dX8_ring_21 : decode cX8_ring 21 = .ok (.getfield 36, 3) := by decide +kernel
theorem dX8_ring_24 : decode cX8_ring 24 = .ok (.aload_n 0, 1) := by decide +kernel
theorem dX8_ring_25 : decode cX8_ring 25 = .ok (.getfield 10, 3) := by decide +kernel
theorem dX8_ring_28 : decode cX8_ring 28 = .ok (.getfield 89, 3) := by decide +kernel
theorem dX8_ring_31 : decode cX8_ring 31 = .ok (.iload_n 1, 1) := by decide +kernel
theorem dX8_ring_32 : decode cX8_ring 32 = .ok (.invokevirtual 241, 3) := by decide +kernel
theorem dX8_ring_35 : decode cX8_ring 35 = .ok (.istore_n 3, 1) := by decide +kernel
theorem dX8_ring_36 : decode cX8_ring 36 = .ok (.iload_n 3, 1) := by decide +kernel
theorem dX8_ring_37 : decode cX8_ring 37 = .ok (.ifCond .ge 5, 3) := by decide +kernel
theorem dX8_ring_40 : decode cX8_ring 40 = .ok (.iconst (-1), 1) := by decide +kernel
theorem dX8_ring_41 : decode cX8_ring 41 = .ok (.ireturn, 1) := by decide +kernel
theorem dX8_ring_42 : decode cX8_ring 42 = .ok (.iload_n 2, 1) := by decide +kernel
theorem dX8_ring_43 : decode cX8_ring 43 = .ok (.tableswitch 69 0 2 #[25, 30, 38], 25) := by decide +kernel
theorem dX8_ring_68 : decode cX8_ring 68 = .ok (.iload_n 3, 1) := by decide +kernel
theorem dX8_ring_69 : decode cX8_ring 69 = .ok (.invokestatic 245, 3) := by decide +kernel
theorem dX8_ring_72 : decode cX8_ring 72 = .ok (.ireturn, 1) := by decide +kernel
theorem dX8_ring_73 : decode cX8_ring 73 = .ok (.getstatic 248, 3) := by decide +kernel
theorem dX8_ring_76 : decode cX8_ring 76 = .ok (.iload_n 3, 1) := by decide +kernel
theorem dX8_ring_77 : decode cX8_ring 77 = .ok (.invokestatic 77, 3) := by decide +kernel
theorem dX8_ring_80 : decode cX8_ring 80 = .ok (.ireturn, 1) := by decide +kernel
theorem dX8_ring_81 : decode cX8_ring 81 = .ok (.lconst 0, 1) := by decide +kernel
theorem dX8_ring_82 : decode cX8_ring 82 = .ok (.ldc2_w 251, 3) := by decide +kernel
theorem dX8_ring_85 : decode cX8_ring 85 = .ok (.aload_n 0, 1) := by decide +kernel
theorem dX8_ring_86 : decode cX8_ring 86 = .ok (.getfield 36, 3) := by decide +kernel
theorem dX8_ring_89 : decode cX8_ring 89 = .ok (.aload_n 0, 1) := by decide +kernel
theorem dX8_ring_90 : decode cX8_ring 90 = .ok (.getfield 10, 3) := by decide +kernel
theorem dX8_ring_93 : decode cX8_ring 93 = .ok (.getfield 89, 3) := by decide +kernel
theorem dX8_ring_96 : decode cX8_ring 96 = .ok (.iload_n 3, 1) := by decide +kernel
theorem dX8_ring_97 : decode cX8_ring 97 = .ok (.invokevirtual 253, 3) := by decide +kernel
theorem dX8_ring_100 : decode cX8_ring 100 = .ok (.ldc2_w 257, 3) := by decide +kernel
theorem dX8_ring_103 : decode cX8_ring 103 = .ok (.ladd, 1) := by decide +kernel
theorem dX8_ring_104 : decode cX8_ring 104 = .ok (.invokestatic 259, 3) := by decide +kernel
theorem dX8_ring_107 : decode cX8_ring 107 = .ok (.invokestatic 263, 3) := by decide +kernel
theorem dX8_ring_110 : decode cX8_ring 110 = .ok (.l2i, 1) := by decide +kernel
theorem dX8_ring_111 : decode cX8_ring 111 = .ok (.ireturn, 1) := by decide +kernel
theorem dX8_ring_112 : decode cX8_ring 112 = .ok (.aload_n 0, 1) := by decide +kernel
theorem dX8_ring_113 : decode cX8_ring 113 = .ok (.getfield 36, 3) := by decide +kernel
theorem dX8_ring_116 : decode cX8_ring 116 = .ok (.aload_n 0, 1) := by decide +kernel
theorem dX8_ring_117 : decode cX8_ring 117 = .ok (.getfield 10, 3) := by decide +kernel
theorem dX8_ring_120 : decode cX8_ring 120 = .ok (.getfield 89, 3) := by decide +kernel
theorem dX8_ring_123 : decode cX8_ring 123 = .ok (.iload_n 3, 1) := by decide +kernel
theorem dX8_ring_124 : decode cX8_ring 124 = .ok (.aload_n 0, 1) := by decide +kernel
theorem dX8_ring_125 : decode cX8_ring 125 = .ok (.invokevirtual 93, 3) := by decide +kernel
theorem dX8_ring_128 : decode cX8_ring 128 = .ok (.invokevirtual 265, 3) := by decide +kernel
theorem dX8_ring_131 : decode cX8_ring 131 = .ok (.ifCond .eq 7, 3) := by decide +kernel
theorem dX8_ring_134 : decode cX8_ring 134 = .ok (.iconst 1, 1) := by decide +kernel
theorem dX8_ring_135 : decode cX8_ring 135 = .ok (.goto 4, 3) := by decide +kernel
theorem dX8_ring_138 : decode cX8_ring 138 = .ok (.iconst 0, 1) := by decide +kernel
theorem dX8_ring_139 : decode cX8_ring 139 = .ok (.ireturn, 1) := by decide +kernel
theorem dX8_boltOf_0 : decode cX8_boltOf 0 = .ok (.aload_n 0, 1) := by decide +kernel
theorem dX8_boltOf_1 : decode cX8_boltOf 1 = .ok (.iload_n 1, 1) := by decide +kernel
theorem dX8_boltOf_2 : decode cX8_boltOf 2 = .ok (.invokevirtual 154, 3) := by decide +kernel
theorem dX8_boltOf_5 : decode cX8_boltOf 5 = .ok (.iload_n 2, 1) := by decide +kernel
theorem dX8_boltOf_6 : decode cX8_boltOf 6 = .ok (.iconst 0, 1) := by decide +kernel
theorem dX8_boltOf_7 : decode cX8_boltOf 7 = .ok (.iconst 3, 1) := by decide +kernel
theorem dX8_boltOf_8 : decode cX8_boltOf 8 = .ok (.invokestatic 66, 3) := by decide +kernel
theorem dX8_boltOf_11 : decode cX8_boltOf 11 = .ok (.iload_n 2, 1) := by decide +kernel
theorem dX8_boltOf_12 : decode cX8_boltOf 12 = .ok (.tableswitch 77 0 2 #[28, 43, 58], 28) := by decide +kernel
theorem dX8_boltOf_40 : decode cX8_boltOf 40 = .ok (.aload_n 0, 1) := by decide +kernel
theorem dX8_boltOf_41 : decode cX8_boltOf 41 = .ok (.getfield 10, 3) := by decide +kernel
theorem dX8_boltOf_44 : decode cX8_boltOf 44 = .ok (.getfield 139, 3) := by decide +kernel
theorem dX8_boltOf_47 : decode cX8_boltOf 47 = .ok (.getfield 169, 3) := by decide +kernel
theorem dX8_boltOf_50 : decode cX8_boltOf 50 = .ok (.iload_n 1, 1) := by decide +kernel
theorem dX8_boltOf_51 : decode cX8_boltOf 51 = .ok (.invokestatic 77, 3) := by decide +kernel
theorem dX8_boltOf_54 : decode cX8_boltOf 54 = .ok (.ireturn, 1) := by decide +kernel
theorem dX8_boltOf_55 : decode cX8_boltOf 55 = .ok (.aload_n 0, 1) := by decide +kernel
theorem dX8_boltOf_56 : decode cX8_boltOf 56 = .ok (.getfield 10, 3) := by decide +kernel
theorem dX8_boltOf_59 : decode cX8_boltOf 59 = .ok (.getfield 139, 3) := by decide +kernel
theorem dX8_boltOf_62 : decode cX8_boltOf 62 = .ok (.getfield 166, 3) := by decide +kernel
theorem dX8_boltOf_65 : decode cX8_boltOf 65 = .ok (.iload_n 1, 1) := by decide +kernel
theorem dX8_boltOf_66 : decode cX8_boltOf 66 = .ok (.invokestatic 77, 3) := by decide +kernel
theorem dX8_boltOf_69 : decode cX8_boltOf 69 = .ok (.ireturn, 1) := by decide +kernel
theorem dX8_boltOf_70 : decode cX8_boltOf 70 = .ok (.aload_n 0, 1) := by decide +kernel
theorem dX8_boltOf_71 : decode cX8_boltOf 71 = .ok (.getfield 10, 3) := by decide +kernel
theorem dX8_boltOf_74 : decode cX8_boltOf 74 = .ok (.getfield 139, 3) := by decide +kernel
theorem dX8_boltOf_77 : decode cX8_boltOf 77 = .ok (.getfield 269, 3) := by decide +kernel
theorem dX8_boltOf_80 : decode cX8_boltOf 80 = .ok (.iload_n 1, 1) := by decide +kernel
theorem dX8_boltOf_81 : decode cX8_boltOf 81 = .ok (.invokestatic 77, 3) := by decide +kernel
theorem dX8_boltOf_84 : decode cX8_boltOf 84 = .ok (.ldc_w 272, 3) := by decide +kernel
theorem dX8_boltOf_87 : decode cX8_boltOf 87 = .ok (.iadd, 1) := by decide +kernel
theorem dX8_boltOf_88 : decode cX8_boltOf 88 = .ok (.ireturn, 1) := by decide +kernel
theorem dX8_boltOf_89 : decode cX8_boltOf 89 = .ok (.aload_n 0, 1) := by decide +kernel
theorem dX8_boltOf_90 : decode cX8_boltOf 90 = .ok (.getfield 10, 3) := by decide +kernel
theorem dX8_boltOf_93 : decode cX8_boltOf 93 = .ok (.getfield 139, 3) := by decide +kernel
theorem dX8_boltOf_96 : decode cX8_boltOf 96 = .ok (.getfield 273, 3) := by decide +kernel
theorem dX8_boltOf_99 : decode cX8_boltOf 99 = .ok (.iload_n 1, 1) := by decide +kernel
theorem dX8_boltOf_100 : decode cX8_boltOf 100 = .ok (.invokestatic 77, 3) := by decide +kernel
theorem dX8_boltOf_103 : decode cX8_boltOf 103 = .ok (.ireturn, 1) := by decide +kernel
theorem dX8_count_0 : decode cX8_count 0 = .ok (.iload_n 1, 1) := by decide +kernel
theorem dX8_count_1 : decode cX8_count 1 = .ok (.iconst 0, 1) := by decide +kernel
theorem dX8_count_2 : decode cX8_count 2 = .ok (.bipush 17, 2) := by decide +kernel
theorem dX8_count_4 : decode cX8_count 4 = .ok (.invokestatic 66, 3) := by decide +kernel
theorem dX8_count_7 : decode cX8_count 7 = .ok (.iload_n 1, 1) := by decide +kernel
theorem dX8_count_8 : decode cX8_count 8 = .ok (.bipush 12, 2) := by decide +kernel
theorem dX8_count_10 : decode cX8_count 10 = .ok (.if_icmp .lt 24, 3) := by decide +kernel
theorem dX8_count_13 : decode cX8_count 13 = .ok (.iload_n 1, 1) := by decide +kernel
theorem dX8_count_14 : decode cX8_count 14 = .ok (.bipush 16, 2) := by decide +kernel
theorem dX8_count_16 : decode cX8_count 16 = .ok (.if_icmp .gt 18, 3) := by decide +kernel
theorem dX8_count_19 : decode cX8_count 19 = .ok (.aload_n 0, 1) := by decide +kernel
theorem dX8_count_20 : decode cX8_count 20 = .ok (.getfield 10, 3) := by decide +kernel
theorem dX8_count_23 : decode cX8_count 23 = .ok (.getfield 74, 3) := by decide +kernel
theorem dX8_count_26 : decode cX8_count 26 = .ok (.iload_n 1, 1) := by decide +kernel
theorem dX8_count_27 : decode cX8_count 27 = .ok (.bipush 12, 2) := by decide +kernel
theorem dX8_count_29 : decode cX8_count 29 = .ok (.isub, 1) := by decide +kernel
theorem dX8_count_30 : decode cX8_count 30 = .ok (.invokestatic 77, 3) := by decide +kernel
theorem dX8_count_33 : decode cX8_count 33 = .ok (.ireturn, 1) := by decide +kernel
theorem dX8_count_34 : decode cX8_count 34 = .ok (.iload_n 1, 1) := by decide +kernel
theorem dX8_count_35 : decode cX8_count 35 = .ok (.bipush 9, 2) := by decide +kernel
theorem dX8_count_37 : decode cX8_count 37 = .ok (.if_icmp .lt 24, 3) := by decide +kernel
theorem dX8_count_40 : decode cX8_count 40 = .ok (.iload_n 1, 1) := by decide +kernel
theorem dX8_count_41 : decode cX8_count 41 = .ok (.bipush 11, 2) := by decide +kernel
theorem dX8_count_43 : decode cX8_count 43 = .ok (.if_icmp .gt 18, 3) := by decide +kernel
theorem dX8_count_46 : decode cX8_count 46 = .ok (.aload_n 0, 1) := by decide +kernel
theorem dX8_count_47 : decode cX8_count 47 = .ok (.getfield 10, 3) := by decide +kernel
theorem dX8_count_50 : decode cX8_count 50 = .ok (.getfield 136, 3) := by decide +kernel
theorem dX8_count_53 : decode cX8_count 53 = .ok (.iload_n 1, 1) := by decide +kernel
theorem dX8_count_54 : decode cX8_count 54 = .ok (.bipush 9, 2) := by decide +kernel
theorem dX8_count_56 : decode cX8_count 56 = .ok (.isub, 1) := by decide +kernel
theorem dX8_count_57 : decode cX8_count 57 = .ok (.invokestatic 77, 3) := by decide +kernel
theorem dX8_count_60 : decode cX8_count 60 = .ok (.ireturn, 1) := by decide +kernel
theorem dX8_count_61 : decode cX8_count 61 = .ok (.iload_n 1, 1) := by decide +kernel
theorem dX8_count_62 : decode cX8_count 62 = .ok (.tableswitch 189 0 8 #[50, 61, 76, 95, 118, 141, 152, 163, 178], 50) := by decide +kernel
theorem dX8_count_112 : decode cX8_count 112 = .ok (.aload_n 0, 1) := by decide +kernel
theorem dX8_count_113 : decode cX8_count 113 = .ok (.getfield 10, 3) := by decide +kernel
theorem dX8_count_116 : decode cX8_count 116 = .ok (.getfield 89, 3) := by decide +kernel
theorem dX8_count_119 : decode cX8_count 119 = .ok (.invokevirtual 228, 3) := by decide +kernel
theorem dX8_count_122 : decode cX8_count 122 = .ok (.ireturn, 1) := by decide +kernel
theorem dX8_count_123 : decode cX8_count 123 = .ok (.aload_n 0, 1) := by decide +kernel
theorem dX8_count_124 : decode cX8_count 124 = .ok (.getfield 36, 3) := by decide +kernel
theorem dX8_count_127 : decode cX8_count 127 = .ok (.aload_n 0, 1) := by decide +kernel
theorem dX8_count_128 : decode cX8_count 128 = .ok (.getfield 10, 3) := by decide +kernel
theorem dX8_count_131 : decode cX8_count 131 = .ok (.getfield 89, 3) := by decide +kernel
theorem dX8_count_134 : decode cX8_count 134 = .ok (.invokevirtual 114, 3) := by decide +kernel
theorem dX8_count_137 : decode cX8_count 137 = .ok (.ireturn, 1) := by decide +kernel
theorem dX8_count_138 : decode cX8_count 138 = .ok (.aload_n 0, 1) := by decide +kernel
theorem dX8_count_139 : decode cX8_count 139 = .ok (.getfield 36, 3) := by decide +kernel
theorem dX8_count_142 : decode cX8_count 142 = .ok (.aload_n 0, 1) := by decide +kernel
theorem dX8_count_143 : decode cX8_count 143 = .ok (.getfield 10, 3) := by decide +kernel
theorem dX8_count_146 : decode cX8_count 146 = .ok (.getfield 89, 3) := by decide +kernel
theorem dX8_count_149 : decode cX8_count 149 = .ok (.aload_n 0, 1) := by decide +kernel
theorem dX8_count_150 : decode cX8_count 150 = .ok (.invokevirtual 93, 3) := by decide +kernel
theorem dX8_count_153 : decode cX8_count 153 = .ok (.invokevirtual 276, 3) := by decide +kernel
theorem dX8_count_156 : decode cX8_count 156 = .ok (.ireturn, 1) := by decide +kernel
theorem dX8_count_157 : decode cX8_count 157 = .ok (.aload_n 0, 1) := by decide +kernel
theorem dX8_count_158 : decode cX8_count 158 = .ok (.getfield 36, 3) := by decide +kernel
theorem dX8_count_161 : decode cX8_count 161 = .ok (.aload_n 0, 1) := by decide +kernel
theorem dX8_count_162 : decode cX8_count 162 = .ok (.getfield 10, 3) := by decide +kernel
theorem dX8_count_165 : decode cX8_count 165 = .ok (.getfield 89, 3) := by decide +kernel
theorem dX8_count_168 : decode cX8_count 168 = .ok (.invokevirtual 279, 3) := by decide +kernel
theorem dX8_count_171 : decode cX8_count 171 = .ok (.ifCond .eq 7, 3) := by decide +kernel
theorem dX8_count_174 : decode cX8_count 174 = .ok (.iconst 1, 1) := by decide +kernel
theorem dX8_count_175 : decode cX8_count 175 = .ok (.goto 4, 3) := by decide +kernel
theorem dX8_count_178 : decode cX8_count 178 = .ok (.iconst 0, 1) := by decide +kernel
theorem dX8_count_179 : decode cX8_count 179 = .ok (.ireturn, 1) := by decide +kernel
theorem dX8_count_180 : decode cX8_count 180 = .ok (.aload_n 0, 1) := by decide +kernel
theorem dX8_count_181 : decode cX8_count 181 = .ok (.getfield 50, 3) := by decide +kernel
theorem dX8_count_184 : decode cX8_count 184 = .ok (.aload_n 0, 1) := by decide +kernel
theorem dX8_count_185 : decode cX8_count 185 = .ok (.getfield 10, 3) := by decide +kernel
theorem dX8_count_188 : decode cX8_count 188 = .ok (.getfield 89, 3) := by decide +kernel
theorem dX8_count_191 : decode cX8_count 191 = .ok (.invokevirtual 283, 3) := by decide +kernel
theorem dX8_count_194 : decode cX8_count 194 = .ok (.ifCond .eq 7, 3) := by decide +kernel
theorem dX8_count_197 : decode cX8_count 197 = .ok (.iconst 1, 1) := by decide +kernel
theorem dX8_count_198 : decode cX8_count 198 = .ok (.goto 4, 3) := by decide +kernel
theorem dX8_count_201 : decode cX8_count 201 = .ok (.iconst 0, 1) := by decide +kernel
theorem dX8_count_202 : decode cX8_count 202 = .ok (.ireturn, 1) := by decide +kernel
theorem dX8_count_203 : decode cX8_count 203 = .ok (.aload_n 0, 1) := by decide +kernel
theorem dX8_count_204 : decode cX8_count 204 = .ok (.getfield 10, 3) := by decide +kernel
theorem dX8_count_207 : decode cX8_count 207 = .ok (.getfield 139, 3) := by decide +kernel
theorem dX8_count_210 : decode cX8_count 210 = .ok (.getfield 143, 3) := by decide +kernel
theorem dX8_count_213 : decode cX8_count 213 = .ok (.ireturn, 1) := by decide +kernel
theorem dX8_count_214 : decode cX8_count 214 = .ok (.aload_n 0, 1) := by decide +kernel
theorem dX8_count_215 : decode cX8_count 215 = .ok (.getfield 10, 3) := by decide +kernel
theorem dX8_count_218 : decode cX8_count 218 = .ok (.getfield 139, 3) := by decide +kernel
theorem dX8_count_221 : decode cX8_count 221 = .ok (.invokevirtual 284, 3) := by decide +kernel
theorem dX8_count_224 : decode cX8_count 224 = .ok (.ireturn, 1) := by decide +kernel
theorem dX8_count_225 : decode cX8_count 225 = .ok (.aload_n 0, 1) := by decide +kernel
theorem dX8_count_226 : decode cX8_count 226 = .ok (.getfield 10, 3) := by decide +kernel
theorem dX8_count_229 : decode cX8_count 229 = .ok (.getfield 139, 3) := by decide +kernel
theorem dX8_count_232 : decode cX8_count 232 = .ok (.getfield 287, 3) := by decide +kernel
theorem dX8_count_235 : decode cX8_count 235 = .ok (.ldc_w 290, 3) := by decide +kernel
theorem dX8_count_238 : decode cX8_count 238 = .ok (.iadd, 1) := by decide +kernel
theorem dX8_count_239 : decode cX8_count 239 = .ok (.ireturn, 1) := by decide +kernel
theorem dX8_count_240 : decode cX8_count 240 = .ok (.aload_n 0, 1) := by decide +kernel
theorem dX8_count_241 : decode cX8_count 241 = .ok (.getfield 10, 3) := by decide +kernel
theorem dX8_count_244 : decode cX8_count 244 = .ok (.getfield 139, 3) := by decide +kernel
theorem dX8_count_247 : decode cX8_count 247 = .ok (.getfield 291, 3) := by decide +kernel
theorem dX8_count_250 : decode cX8_count 250 = .ok (.ireturn, 1) := by decide +kernel
theorem dX8_count_251 : decode cX8_count 251 = .ok (.aload_n 0, 1) := by decide +kernel
theorem dX8_count_252 : decode cX8_count 252 = .ok (.getfield 22, 3) := by decide +kernel
theorem dX8_count_255 : decode cX8_count 255 = .ok (.getfield 219, 3) := by decide +kernel
theorem dX8_count_258 : decode cX8_count 258 = .ok (.ireturn, 1) := by decide +kernel
theorem dX8_offBy_0 : decode cX8_offBy 0 = .ok (.iload_n 1, 1) := by decide +kernel
theorem dX8_offBy_1 : decode cX8_offBy 1 = .ok (.iload_n 2, 1) := by decide +kernel
theorem dX8_offBy_2 : decode cX8_offBy 2 = .ok (.invokestatic 85, 3) := by decide +kernel
theorem dX8_offBy_5 : decode cX8_offBy 5 = .ok (.iload_n 3, 1) := by decide +kernel
theorem dX8_offBy_6 : decode cX8_offBy 6 = .ok (.iconst 1, 1) := by decide +kernel
theorem dX8_offBy_7 : decode cX8_offBy 7 = .ok (.bipush 99, 2) := by decide +kernel
theorem dX8_offBy_9 : decode cX8_offBy 9 = .ok (.invokestatic 66, 3) := by decide +kernel
theorem dX8_offBy_12 : decode cX8_offBy 12 = .ok (.iload 4, 2) := by decide +kernel
theorem dX8_offBy_14 : decode cX8_offBy 14 = .ok (.iconst 1, 1) := by decide +kernel
theorem dX8_offBy_15 : decode cX8_offBy 15 = .ok (.bipush 99, 2) := by decide +kernel
theorem dX8_offBy_17 : decode cX8_offBy 17 = .ok (.invokestatic 66, 3) := by decide +kernel
theorem dX8_offBy_20 : decode cX8_offBy 20 = .ok (.aload_n 0, 1) := by decide +kernel
theorem dX8_offBy_21 : decode cX8_offBy 21 = .ok (.getfield 36, 3) := by decide +kernel
theorem dX8_offBy_24 : decode cX8_offBy 24 = .ok (.aload_n 0, 1) := by decide +kernel
theorem dX8_offBy_25 : decode cX8_offBy 25 = .ok (.getfield 10, 3) := by decide +kernel
theorem dX8_offBy_28 : decode cX8_offBy 28 = .ok (.getfield 89, 3) := by decide +kernel
theorem dX8_offBy_31 : decode cX8_offBy 31 = .ok (.iload_n 1, 1) := by decide +kernel
theorem dX8_offBy_32 : decode cX8_offBy 32 = .ok (.iload_n 2, 1) := by decide +kernel
theorem dX8_offBy_33 : decode cX8_offBy 33 = .ok (.iload_n 3, 1) := by decide +kernel
theorem dX8_offBy_34 : decode cX8_offBy 34 = .ok (.iload 4, 2) := by decide +kernel
theorem dX8_offBy_36 : decode cX8_offBy 36 = .ok (.aload_n 0, 1) := by decide +kernel
theorem dX8_offBy_37 : decode cX8_offBy 37 = .ok (.invokevirtual 93, 3) := by decide +kernel
theorem dX8_offBy_40 : decode cX8_offBy 40 = .ok (.invokevirtual 97, 3) := by decide +kernel
theorem dX8_offBy_43 : decode cX8_offBy 43 = .ok (.istore 5, 2) := by decide +kernel
theorem dX8_offBy_45 : decode cX8_offBy 45 = .ok (.iload 5, 2) := by decide +kernel
theorem dX8_offBy_47 : decode cX8_offBy 47 = .ok (.ifCond .ge 7, 3) := by decide +kernel
theorem dX8_offBy_50 : decode cX8_offBy 50 = .ok (.iconst 0, 1) := by decide +kernel
theorem dX8_offBy_51 : decode cX8_offBy 51 = .ok (.goto 11, 3) := by decide +kernel
theorem dX8_offBy_54 : decode cX8_offBy 54 = .ok (.getstatic 248, 3) := by decide +kernel
theorem dX8_offBy_57 : decode cX8_offBy 57 = .ok (.iload 5, 2) := by decide +kernel
theorem dX8_offBy_59 : decode cX8_offBy 59 = .ok (.invokestatic 77, 3) := by decide +kernel
theorem dX8_offBy_62 : decode cX8_offBy 62 = .ok (.ireturn, 1) := by decide +kernel
theorem dX8_turned_0 : decode cX8_turned 0 = .ok (.iload_n 1, 1) := by decide +kernel
theorem dX8_turned_1 : decode cX8_turned 1 = .ok (.iload_n 2, 1) := by decide +kernel
theorem dX8_turned_2 : decode cX8_turned 2 = .ok (.invokestatic 85, 3) := by decide +kernel
theorem dX8_turned_5 : decode cX8_turned 5 = .ok (.iload_n 3, 1) := by decide +kernel
theorem dX8_turned_6 : decode cX8_turned 6 = .ok (.iconst 0, 1) := by decide +kernel
theorem dX8_turned_7 : decode cX8_turned 7 = .ok (.ldc_w 294, 3) := by decide +kernel
theorem dX8_turned_10 : decode cX8_turned 10 = .ok (.invokestatic 66, 3) := by decide +kernel
theorem dX8_turned_13 : decode cX8_turned 13 = .ok (.aload_n 0, 1) := by decide +kernel
theorem dX8_turned_14 : decode cX8_turned 14 = .ok (.getfield 10, 3) := by decide +kernel
theorem dX8_turned_17 : decode cX8_turned 17 = .ok (.getfield 89, 3) := by decide +kernel
theorem dX8_turned_20 : decode cX8_turned 20 = .ok (.iload_n 1, 1) := by decide +kernel
theorem dX8_turned_21 : decode cX8_turned 21 = .ok (.iload_n 2, 1) := by decide +kernel
theorem dX8_turned_22 : decode cX8_turned 22 = .ok (.invokevirtual 118, 3) := by decide +kernel
theorem dX8_turned_25 : decode cX8_turned 25 = .ok (.ifCond .ne 5, 3) := by decide +kernel
theorem dX8_turned_28 : decode cX8_turned 28 = .ok (.iconst (-1), 1) := by decide +kernel
theorem dX8_turned_29 : decode cX8_turned 29 = .ok (.ireturn, 1) := by decide +kernel
theorem dX8_turned_30 : decode cX8_turned 30 = .ok (.iload_n 3, 1) := by decide +kernel
theorem dX8_turned_31 : decode cX8_turned 31 = .ok (.i2l, 1) := by decide +kernel
theorem dX8_turned_32 : decode cX8_turned 32 = .ok (.aload_n 0, 1) := by decide +kernel
theorem dX8_turned_33 : decode cX8_turned 33 = .ok (.getfield 10, 3) := by decide +kernel
theorem dX8_turned_36 : decode cX8_turned 36 = .ok (.getfield 89, 3) := by decide +kernel
theorem dX8_turned_39 : decode cX8_turned 39 = .ok (.iload_n 1, 1) := by decide +kernel
theorem dX8_turned_40 : decode cX8_turned 40 = .ok (.iload_n 2, 1) := by decide +kernel
theorem dX8_turned_41 : decode cX8_turned 41 = .ok (.invokevirtual 236, 3) := by decide +kernel
theorem dX8_turned_44 : decode cX8_turned 44 = .ok (.aload_n 0, 1) := by decide +kernel
theorem dX8_turned_45 : decode cX8_turned 45 = .ok (.getfield 10, 3) := by decide +kernel
theorem dX8_turned_48 : decode cX8_turned 48 = .ok (.getfield 89, 3) := by decide +kernel
theorem dX8_turned_51 : decode cX8_turned 51 = .ok (.iload_n 2, 1) := by decide +kernel
theorem dX8_turned_52 : decode cX8_turned 52 = .ok (.iload_n 1, 1) := by decide +kernel
theorem dX8_turned_53 : decode cX8_turned 53 = .ok (.invokevirtual 236, 3) := by decide +kernel
theorem dX8_turned_56 : decode cX8_turned 56 = .ok (.aload_n 0, 1) := by decide +kernel
theorem dX8_turned_57 : decode cX8_turned 57 = .ok (.invokevirtual 295, 3) := by decide +kernel
theorem dX8_turned_60 : decode cX8_turned 60 = .ok (.invokestatic 298, 3) := by decide +kernel
theorem dX8_turned_63 : decode cX8_turned 63 = .ok (.l2i, 1) := by decide +kernel
theorem dX8_turned_64 : decode cX8_turned 64 = .ok (.ireturn, 1) := by decide +kernel
theorem dX8_bestWay_0 : decode cX8_bestWay 0 = .ok (.iload_n 1, 1) := by decide +kernel
theorem dX8_bestWay_1 : decode cX8_bestWay 1 = .ok (.iload_n 2, 1) := by decide +kernel
theorem dX8_bestWay_2 : decode cX8_bestWay 2 = .ok (.invokestatic 85, 3) := by decide +kernel
theorem dX8_bestWay_5 : decode cX8_bestWay 5 = .ok (.iload_n 3, 1) := by decide +kernel
theorem dX8_bestWay_6 : decode cX8_bestWay 6 = .ok (.iconst 0, 1) := by decide +kernel
theorem dX8_bestWay_7 : decode cX8_bestWay 7 = .ok (.sipush 9999, 3) := by decide +kernel
theorem dX8_bestWay_10 : decode cX8_bestWay 10 = .ok (.invokestatic 66, 3) := by decide +kernel
theorem dX8_bestWay_13 : decode cX8_bestWay 13 = .ok (.iconst (-1), 1) := by decide +kernel
theorem dX8_bestWay_14 : decode cX8_bestWay 14 = .ok (.istore 4, 2) := by decide +kernel
theorem dX8_bestWay_16 : decode cX8_bestWay 16 = .ok (.lconst 0, 1) := by decide +kernel
theorem dX8_bestWay_17 : decode cX8_bestWay 17 = .ok (.lstore 5, 2) := by decide +kernel
theorem dX8_bestWay_19 : decode cX8_bestWay 19 = .ok (.iconst 0, 1) := by decide +kernel
theorem dX8_bestWay_20 : decode cX8_bestWay 20 = .ok (.istore 7, 2) := by decide +kernel
theorem dX8_bestWay_22 : decode cX8_bestWay 22 = .ok (.iload 7, 2) := by decide +kernel
theorem dX8_bestWay_24 : decode cX8_bestWay 24 = .ok (.bipush 16, 2) := by decide +kernel
theorem dX8_bestWay_26 : decode cX8_bestWay 26 = .ok (.if_icmp .ge 112, 3) := by decide +kernel
theorem dX8_bestWay_29 : decode cX8_bestWay 29 = .ok (.aload_n 0, 1) := by decide +kernel
theorem dX8_bestWay_30 : decode cX8_bestWay 30 = .ok (.getfield 43, 3) := by decide +kernel
theorem dX8_bestWay_33 : decode cX8_bestWay 33 = .ok (.iload_n 1, 1) := by decide +kernel
theorem dX8_bestWay_34 : decode cX8_bestWay 34 = .ok (.iload_n 2, 1) := by decide +kernel
theorem dX8_bestWay_35 : decode cX8_bestWay 35 = .ok (.iload 7, 2) := by decide +kernel
theorem dX8_bestWay_37 : decode cX8_bestWay 37 = .ok (.invokevirtual 302, 3) := by decide +kernel
theorem dX8_bestWay_40 : decode cX8_bestWay 40 = .ok (.aload_n 0, 1) := by decide +kernel
theorem dX8_bestWay_41 : decode cX8_bestWay 41 = .ok (.getfield 43, 3) := by decide +kernel
theorem dX8_bestWay_44 : decode cX8_bestWay 44 = .ok (.getfield 305, 3) := by decide +kernel
theorem dX8_bestWay_47 : decode cX8_bestWay 47 = .ok (.iconst 1, 1) := by decide +kernel
theorem dX8_bestWay_48 : decode cX8_bestWay 48 = .ok (.isub, 1) := by decide +kernel
theorem dX8_bestWay_49 : decode cX8_bestWay 49 = .ok (.aload_n 0, 1) := by decide +kernel
theorem dX8_bestWay_50 : decode cX8_bestWay 50 = .ok (.getfield 10, 3) := by decide +kernel
theorem dX8_bestWay_53 : decode cX8_bestWay 53 = .ok (.getfield 136, 3) := by decide +kernel
theorem dX8_bestWay_56 : decode cX8_bestWay 56 = .ok (.iconst 2, 1) := by decide +kernel
theorem dX8_bestWay_57 : decode cX8_bestWay 57 = .ok (.invokestatic 77, 3) := by decide +kernel
theorem dX8_bestWay_60 : decode cX8_bestWay 60 = .ok (.if_icmp .gt 72, 3) := by decide +kernel
theorem dX8_bestWay_63 : decode cX8_bestWay 63 = .ok (.aload_n 0, 1) := by decide +kernel
theorem dX8_bestWay_64 : decode cX8_bestWay 64 = .ok (.getfield 43, 3) := by decide +kernel
theorem dX8_bestWay_67 : decode cX8_bestWay 67 = .ok (.aload_n 0, 1) := by decide +kernel
theorem dX8_bestWay_68 : decode cX8_bestWay 68 = .ok (.getfield 10, 3) := by decide +kernel
theorem dX8_bestWay_71 : decode cX8_bestWay 71 = .ok (.getfield 89, 3) := by decide +kernel
theorem dX8_bestWay_74 : decode cX8_bestWay 74 = .ok (.invokevirtual 306, 3) := by decide +kernel
theorem dX8_bestWay_77 : decode cX8_bestWay 77 = .ok (.ifCond .eq 55, 3) := by decide +kernel
theorem dX8_bestWay_80 : decode cX8_bestWay 80 = .ok (.aload_n 0, 1) := by decide +kernel
theorem dX8_bestWay_81 : decode cX8_bestWay 81 = .ok (.getfield 43, 3) := by decide +kernel
theorem dX8_bestWay_84 : decode cX8_bestWay 84 = .ok (.aload_n 0, 1) := by decide +kernel
theorem dX8_bestWay_85 : decode cX8_bestWay 85 = .ok (.getfield 10, 3) := by decide +kernel
theorem dX8_bestWay_88 : decode cX8_bestWay 88 = .ok (.getfield 89, 3) := by decide +kernel
theorem dX8_bestWay_91 : decode cX8_bestWay 91 = .ok (.iload_n 3, 1) := by decide +kernel
theorem dX8_bestWay_92 : decode cX8_bestWay 92 = .ok (.aload_n 0, 1) := by decide +kernel
theorem dX8_bestWay_93 : decode cX8_bestWay 93 = .ok (.invokevirtual 295, 3) := by decide +kernel
theorem dX8_bestWay_96 : decode cX8_bestWay 96 = .ok (.invokevirtual 309, 3) := by decide +kernel
theorem dX8_bestWay_99 : decode cX8_bestWay 99 = .ok (.lstore 8, 2) := by decide +kernel
theorem dX8_bestWay_101 : decode cX8_bestWay 101 = .ok (.iload 4, 2) := by decide +kernel
theorem dX8_bestWay_103 : decode cX8_bestWay 103 = .ok (.iconst (-1), 1) := by decide +kernel
theorem dX8_bestWay_104 : decode cX8_bestWay 104 = .ok (.if_icmp .eq 11, 3) := by decide +kernel
theorem dX8_bestWay_107 : decode cX8_bestWay 107 = .ok (.lload 8, 2) := by decide +kernel
theorem dX8_bestWay_109 : decode cX8_bestWay 109 = .ok (.lload 5, 2) := by decide +kernel
theorem dX8_bestWay_111 : decode cX8_bestWay 111 = .ok (.lcmp, 1) := by decide +kernel
theorem dX8_bestWay_112 : decode cX8_bestWay 112 = .ok (.ifCond .ge 20, 3) := by decide +kernel
theorem dX8_bestWay_115 : decode cX8_bestWay 115 = .ok (.aload_n 0, 1) := by decide +kernel
theorem dX8_bestWay_116 : decode cX8_bestWay 116 = .ok (.getfield 43, 3) := by decide +kernel
theorem dX8_bestWay_119 : decode cX8_bestWay 119 = .ok (.invokevirtual 313, 3) := by decide +kernel
theorem dX8_bestWay_122 : decode cX8_bestWay 122 = .ok (.ldc_w 316, 3) := by decide +kernel
theorem dX8_bestWay_125 : decode cX8_bestWay 125 = .ok (.iadd, 1) := by decide +kernel
theorem dX8_bestWay_126 : decode cX8_bestWay 126 = .ok (.istore 4, 2) := by decide +kernel
theorem dX8_bestWay_128 : decode cX8_bestWay 128 = .ok (.lload 8, 2) := by decide +kernel
theorem dX8_bestWay_130 : decode cX8_bestWay 130 = .ok (.lstore 5, 2) := by decide +kernel
theorem dX8_bestWay_132 : decode cX8_bestWay 132 = .ok (.iinc 7 1, 3) := by decide +kernel
theorem dX8_bestWay_135 : decode cX8_bestWay 135 = .ok (.goto (-113), 3) := by decide +kernel
theorem dX8_bestWay_138 : decode cX8_bestWay 138 = .ok (.iload 4, 2) := by decide +kernel
theorem dX8_bestWay_140 : decode cX8_bestWay 140 = .ok (.ireturn, 1) := by decide +kernel
theorem dX8_mends_0 : decode cX8_mends 0 = .ok (.iload_n 1, 1) := by decide +kernel
theorem dX8_mends_1 : decode cX8_mends 1 = .ok (.iload_n 2, 1) := by decide +kernel
theorem dX8_mends_2 : decode cX8_mends 2 = .ok (.invokestatic 85, 3) := by decide +kernel
theorem dX8_mends_5 : decode cX8_mends 5 = .ok (.iload_n 3, 1) := by decide +kernel
theorem dX8_mends_6 : decode cX8_mends 6 = .ok (.iconst 0, 1) := by decide +kernel
theorem dX8_mends_7 : decode cX8_mends 7 = .ok (.iconst 1, 1) := by decide +kernel
theorem dX8_mends_8 : decode cX8_mends 8 = .ok (.invokestatic 66, 3) := by decide +kernel
theorem dX8_mends_11 : decode cX8_mends 11 = .ok (.iconst 1, 1) := by decide +kernel
theorem dX8_mends_12 : decode cX8_mends 12 = .ok (.istore 4, 2) := by decide +kernel
theorem dX8_mends_14 : decode cX8_mends 14 = .ok (.iload 4, 2) := by decide +kernel
theorem dX8_mends_16 : decode cX8_mends 16 = .ok (.bipush 16, 2) := by decide +kernel
theorem dX8_mends_18 : decode cX8_mends 18 = .ok (.if_icmp .ge 72, 3) := by decide +kernel
theorem dX8_mends_21 : decode cX8_mends 21 = .ok (.aload_n 0, 1) := by decide +kernel
theorem dX8_mends_22 : decode cX8_mends 22 = .ok (.getfield 43, 3) := by decide +kernel
theorem dX8_mends_25 : decode cX8_mends 25 = .ok (.iload_n 1, 1) := by decide +kernel
theorem dX8_mends_26 : decode cX8_mends 26 = .ok (.iload_n 2, 1) := by decide +kernel
theorem dX8_mends_27 : decode cX8_mends 27 = .ok (.iload 4, 2) := by decide +kernel
theorem dX8_mends_29 : decode cX8_mends 29 = .ok (.invokevirtual 302, 3) := by decide +kernel
theorem dX8_mends_32 : decode cX8_mends 32 = .ok (.aload_n 0, 1) := by decide +kernel
theorem dX8_mends_33 : decode cX8_mends 33 = .ok (.getfield 43, 3) := by decide +kernel
theorem dX8_mends_36 : decode cX8_mends 36 = .ok (.aload_n 0, 1) := by decide +kernel
theorem dX8_mends_37 : decode cX8_mends 37 = .ok (.getfield 10, 3) := by decide +kernel
theorem dX8_mends_40 : decode cX8_mends 40 = .ok (.getfield 89, 3) := by decide +kernel
theorem dX8_mends_43 : decode cX8_mends 43 = .ok (.invokevirtual 306, 3) := by decide +kernel
theorem dX8_mends_46 : decode cX8_mends 46 = .ok (.ifCond .eq 38, 3) := by decide +kernel
theorem dX8_mends_49 : decode cX8_mends 49 = .ok (.aload_n 0, 1) := by decide +kernel
theorem dX8_mends_50 : decode cX8_mends 50 = .ok (.getfield 43, 3) := by decide +kernel
theorem dX8_mends_53 : decode cX8_mends 53 = .ok (.aload_n 0, 1) := by decide +kernel
theorem dX8_mends_54 : decode cX8_mends 54 = .ok (.getfield 10, 3) := by decide +kernel
theorem dX8_mends_57 : decode cX8_mends 57 = .ok (.getfield 89, 3) := by decide +kernel
theorem dX8_mends_60 : decode cX8_mends 60 = .ok (.iconst 1, 1) := by decide +kernel
theorem dX8_mends_61 : decode cX8_mends 61 = .ok (.invokevirtual 317, 3) := by decide +kernel
theorem dX8_mends_64 : decode cX8_mends 64 = .ok (.aload_n 0, 1) := by decide +kernel
theorem dX8_mends_65 : decode cX8_mends 65 = .ok (.getfield 43, 3) := by decide +kernel
theorem dX8_mends_68 : decode cX8_mends 68 = .ok (.aload_n 0, 1) := by decide +kernel
theorem dX8_mends_69 : decode cX8_mends 69 = .ok (.getfield 10, 3) := by decide +kernel
theorem dX8_mends_72 : decode cX8_mends 72 = .ok (.getfield 89, 3) := by decide +kernel
theorem dX8_mends_75 : decode cX8_mends 75 = .ok (.iconst 0, 1) := by decide +kernel
theorem dX8_mends_76 : decode cX8_mends 76 = .ok (.invokevirtual 317, 3) := by decide +kernel
theorem dX8_mends_79 : decode cX8_mends 79 = .ok (.iload_n 3, 1) := by decide +kernel
theorem dX8_mends_80 : decode cX8_mends 80 = .ok (.invokestatic 321, 3) := by decide +kernel
theorem dX8_mends_83 : decode cX8_mends 83 = .ok (.ireturn, 1) := by decide +kernel
theorem dX8_mends_84 : decode cX8_mends 84 = .ok (.iinc 4 1, 3) := by decide +kernel
theorem dX8_mends_87 : decode cX8_mends 87 = .ok (.goto (-73), 3) := by decide +kernel
theorem dX8_mends_90 : decode cX8_mends 90 = .ok (.iconst (-1), 1) := by decide +kernel
theorem dX8_mends_91 : decode cX8_mends 91 = .ok (.ireturn, 1) := by decide +kernel
theorem dX8_trueShare_0 : decode cX8_trueShare 0 = .ok (.aload_n 0, 1) := by decide +kernel
theorem dX8_trueShare_1 : decode cX8_trueShare 1 = .ok (.getfield 36, 3) := by decide +kernel
theorem dX8_trueShare_4 : decode cX8_trueShare 4 = .ok (.aload_n 0, 1) := by decide +kernel
theorem dX8_trueShare_5 : decode cX8_trueShare 5 = .ok (.getfield 10, 3) := by decide +kernel
theorem dX8_trueShare_8 : decode cX8_trueShare 8 = .ok (.getfield 89, 3) := by decide +kernel
theorem dX8_trueShare_11 : decode cX8_trueShare 11 = .ok (.invokevirtual 114, 3) := by decide +kernel
theorem dX8_trueShare_14 : decode cX8_trueShare 14 = .ok (.istore_n 1, 1) := by decide +kernel
theorem dX8_trueShare_15 : decode cX8_trueShare 15 = .ok (.iload_n 1, 1) := by decide +kernel
theorem dX8_trueShare_16 : decode cX8_trueShare 16 = .ok (.ifCond .gt 5, 3) := by decide +kernel
theorem dX8_trueShare_19 : decode cX8_trueShare 19 = .ok (.dconst 1, 1) := by decide +kernel
theorem dX8_trueShare_20 : decode cX8_trueShare 20 = .ok (.dreturn, 1) := by decide +kernel
theorem dX8_trueShare_21 : decode cX8_trueShare 21 = .ok (.iload_n 1, 1) := by decide +kernel
theorem dX8_trueShare_22 : decode cX8_trueShare 22 = .ok (.aload_n 0, 1) := by decide +kernel
theorem dX8_trueShare_23 : decode cX8_trueShare 23 = .ok (.getfield 36, 3) := by decide +kernel
theorem dX8_trueShare_26 : decode cX8_trueShare 26 = .ok (.aload_n 0, 1) := by decide +kernel
theorem dX8_trueShare_27 : decode cX8_trueShare 27 = .ok (.getfield 10, 3) := by decide +kernel
theorem dX8_trueShare_30 : decode cX8_trueShare 30 = .ok (.getfield 89, 3) := by decide +kernel
theorem dX8_trueShare_33 : decode cX8_trueShare 33 = .ok (.aload_n 0, 1) := by decide +kernel
theorem dX8_trueShare_34 : decode cX8_trueShare 34 = .ok (.invokevirtual 93, 3) := by decide +kernel
theorem dX8_trueShare_37 : decode cX8_trueShare 37 = .ok (.invokevirtual 276, 3) := by decide +kernel
theorem dX8_trueShare_40 : decode cX8_trueShare 40 = .ok (.isub, 1) := by decide +kernel
theorem dX8_trueShare_41 : decode cX8_trueShare 41 = .ok (.i2d, 1) := by decide +kernel
theorem dX8_trueShare_42 : decode cX8_trueShare 42 = .ok (.iload_n 1, 1) := by decide +kernel
theorem dX8_trueShare_43 : decode cX8_trueShare 43 = .ok (.i2d, 1) := by decide +kernel
theorem dX8_trueShare_44 : decode cX8_trueShare 44 = .ok (.ddiv, 1) := by decide +kernel
theorem dX8_trueShare_45 : decode cX8_trueShare 45 = .ok (.dreturn, 1) := by decide +kernel
theorem dX8_digest_0 : decode cX8_digest 0 = .ok (.ldc2_w 325, 3) := by decide +kernel
theorem dX8_digest_3 : decode cX8_digest 3 = .ok (.lstore_n 1, 1) := by decide +kernel
theorem dX8_digest_4 : decode cX8_digest 4 = .ok (.iconst 0, 1) := by decide +kernel
theorem dX8_digest_5 : decode cX8_digest 5 = .ok (.istore_n 3, 1) := by decide +kernel
theorem dX8_digest_6 : decode cX8_digest 6 = .ok (.iload_n 3, 1) := by decide +kernel
theorem dX8_digest_7 : decode cX8_digest 7 = .ok (.bipush 17, 2) := by decide +kernel
theorem dX8_digest_9 : decode cX8_digest 9 = .ok (.if_icmp .gt 22, 3) := by decide +kernel
theorem dX8_digest_12 : decode cX8_digest 12 = .ok (.ldc2_w 327, 3) := by decide +kernel
theorem dX8_digest_15 : decode cX8_digest 15 = .ok (.lload_n 1, 1) := by decide +kernel
theorem dX8_digest_16 : decode cX8_digest 16 = .ok (.lmul, 1) := by decide +kernel
theorem dX8_digest_17 : decode cX8_digest 17 = .ok (.aload_n 0, 1) := by decide +kernel
theorem dX8_digest_18 : decode cX8_digest 18 = .ok (.iload_n 3, 1) := by decide +kernel
theorem dX8_digest_19 : decode cX8_digest 19 = .ok (.invokevirtual 329, 3) := by decide +kernel
theorem dX8_digest_22 : decode cX8_digest 22 = .ok (.i2l, 1) := by decide +kernel
theorem dX8_digest_23 : decode cX8_digest 23 = .ok (.ladd, 1) := by decide +kernel
theorem dX8_digest_24 : decode cX8_digest 24 = .ok (.lstore_n 1, 1) := by decide +kernel
theorem dX8_digest_25 : decode cX8_digest 25 = .ok (.iinc 3 1, 3) := by decide +kernel
theorem dX8_digest_28 : decode cX8_digest 28 = .ok (.goto (-22), 3) := by decide +kernel
theorem dX8_digest_31 : decode cX8_digest 31 = .ok (.aload_n 0, 1) := by decide +kernel
theorem dX8_digest_32 : decode cX8_digest 32 = .ok (.lload_n 1, 1) := by decide +kernel
theorem dX8_digest_33 : decode cX8_digest 33 = .ok (.invokevirtual 332, 3) := by decide +kernel
theorem dX8_digest_36 : decode cX8_digest 36 = .ok (.lstore_n 1, 1) := by decide +kernel
theorem dX8_digest_37 : decode cX8_digest 37 = .ok (.aload_n 0, 1) := by decide +kernel
theorem dX8_digest_38 : decode cX8_digest 38 = .ok (.lload_n 1, 1) := by decide +kernel
theorem dX8_digest_39 : decode cX8_digest 39 = .ok (.invokevirtual 336, 3) := by decide +kernel
theorem dX8_digest_42 : decode cX8_digest 42 = .ok (.lstore_n 1, 1) := by decide +kernel
theorem dX8_digest_43 : decode cX8_digest 43 = .ok (.aload_n 0, 1) := by decide +kernel
theorem dX8_digest_44 : decode cX8_digest 44 = .ok (.lload_n 1, 1) := by decide +kernel
theorem dX8_digest_45 : decode cX8_digest 45 = .ok (.invokevirtual 339, 3) := by decide +kernel
theorem dX8_digest_48 : decode cX8_digest 48 = .ok (.lstore_n 1, 1) := by decide +kernel
theorem dX8_digest_49 : decode cX8_digest 49 = .ok (.ldc2_w 327, 3) := by decide +kernel
theorem dX8_digest_52 : decode cX8_digest 52 = .ok (.lload_n 1, 1) := by decide +kernel
theorem dX8_digest_53 : decode cX8_digest 53 = .ok (.lmul, 1) := by decide +kernel
theorem dX8_digest_54 : decode cX8_digest 54 = .ok (.aload_n 0, 1) := by decide +kernel
theorem dX8_digest_55 : decode cX8_digest 55 = .ok (.iconst 0, 1) := by decide +kernel
theorem dX8_digest_56 : decode cX8_digest 56 = .ok (.invokevirtual 342, 3) := by decide +kernel
theorem dX8_digest_59 : decode cX8_digest 59 = .ok (.i2l, 1) := by decide +kernel
theorem dX8_digest_60 : decode cX8_digest 60 = .ok (.ladd, 1) := by decide +kernel
theorem dX8_digest_61 : decode cX8_digest 61 = .ok (.lstore_n 1, 1) := by decide +kernel
theorem dX8_digest_62 : decode cX8_digest 62 = .ok (.ldc2_w 327, 3) := by decide +kernel
theorem dX8_digest_65 : decode cX8_digest 65 = .ok (.lload_n 1, 1) := by decide +kernel
theorem dX8_digest_66 : decode cX8_digest 66 = .ok (.lmul, 1) := by decide +kernel
theorem dX8_digest_67 : decode cX8_digest 67 = .ok (.aload_n 0, 1) := by decide +kernel
theorem dX8_digest_68 : decode cX8_digest 68 = .ok (.iconst 1, 1) := by decide +kernel
theorem dX8_digest_69 : decode cX8_digest 69 = .ok (.invokevirtual 342, 3) := by decide +kernel
theorem dX8_digest_72 : decode cX8_digest 72 = .ok (.i2l, 1) := by decide +kernel
theorem dX8_digest_73 : decode cX8_digest 73 = .ok (.ladd, 1) := by decide +kernel
theorem dX8_digest_74 : decode cX8_digest 74 = .ok (.lstore_n 1, 1) := by decide +kernel
theorem dX8_digest_75 : decode cX8_digest 75 = .ok (.ldc2_w 327, 3) := by decide +kernel
theorem dX8_digest_78 : decode cX8_digest 78 = .ok (.lload_n 1, 1) := by decide +kernel
theorem dX8_digest_79 : decode cX8_digest 79 = .ok (.lmul, 1) := by decide +kernel
theorem dX8_digest_80 : decode cX8_digest 80 = .ok (.aload_n 0, 1) := by decide +kernel
theorem dX8_digest_81 : decode cX8_digest 81 = .ok (.iconst 0, 1) := by decide +kernel
theorem dX8_digest_82 : decode cX8_digest 82 = .ok (.iconst 1, 1) := by decide +kernel
theorem dX8_digest_83 : decode cX8_digest 83 = .ok (.iconst 3, 1) := by decide +kernel
theorem dX8_digest_84 : decode cX8_digest 84 = .ok (.iconst 2, 1) := by decide +kernel
theorem dX8_digest_85 : decode cX8_digest 85 = .ok (.invokevirtual 345, 3) := by decide +kernel
theorem dX8_digest_88 : decode cX8_digest 88 = .ok (.i2l, 1) := by decide +kernel
theorem dX8_digest_89 : decode cX8_digest 89 = .ok (.ladd, 1) := by decide +kernel
theorem dX8_digest_90 : decode cX8_digest 90 = .ok (.lstore_n 1, 1) := by decide +kernel
theorem dX8_digest_91 : decode cX8_digest 91 = .ok (.ldc2_w 327, 3) := by decide +kernel
theorem dX8_digest_94 : decode cX8_digest 94 = .ok (.lload_n 1, 1) := by decide +kernel
theorem dX8_digest_95 : decode cX8_digest 95 = .ok (.lmul, 1) := by decide +kernel
theorem dX8_digest_96 : decode cX8_digest 96 = .ok (.aload_n 0, 1) := by decide +kernel
theorem dX8_digest_97 : decode cX8_digest 97 = .ok (.iconst 0, 1) := by decide +kernel
theorem dX8_digest_98 : decode cX8_digest 98 = .ok (.iconst 1, 1) := by decide +kernel
theorem dX8_digest_99 : decode cX8_digest 99 = .ok (.sipush 1000, 3) := by decide +kernel
theorem dX8_digest_102 : decode cX8_digest 102 = .ok (.invokevirtual 349, 3) := by decide +kernel
theorem dX8_digest_105 : decode cX8_digest 105 = .ok (.i2l, 1) := by decide +kernel
theorem dX8_digest_106 : decode cX8_digest 106 = .ok (.ladd, 1) := by decide +kernel
theorem dX8_digest_107 : decode cX8_digest 107 = .ok (.lstore_n 1, 1) := by decide +kernel
theorem dX8_digest_108 : decode cX8_digest 108 = .ok (.ldc2_w 327, 3) := by decide +kernel
theorem dX8_digest_111 : decode cX8_digest 111 = .ok (.lload_n 1, 1) := by decide +kernel
theorem dX8_digest_112 : decode cX8_digest 112 = .ok (.lmul, 1) := by decide +kernel
theorem dX8_digest_113 : decode cX8_digest 113 = .ok (.aload_n 0, 1) := by decide +kernel
theorem dX8_digest_114 : decode cX8_digest 114 = .ok (.invokevirtual 353, 3) := by decide +kernel
theorem dX8_digest_117 : decode cX8_digest 117 = .ok (.invokestatic 357, 3) := by decide +kernel
theorem dX8_digest_120 : decode cX8_digest 120 = .ok (.ladd, 1) := by decide +kernel
theorem dX8_digest_121 : decode cX8_digest 121 = .ok (.lstore_n 1, 1) := by decide +kernel
theorem dX8_digest_122 : decode cX8_digest 122 = .ok (.ldc2_w 327, 3) := by decide +kernel
theorem dX8_digest_125 : decode cX8_digest 125 = .ok (.lload_n 1, 1) := by decide +kernel
theorem dX8_digest_126 : decode cX8_digest 126 = .ok (.lmul, 1) := by decide +kernel
theorem dX8_digest_127 : decode cX8_digest 127 = .ok (.aload_n 0, 1) := by decide +kernel
theorem dX8_digest_128 : decode cX8_digest 128 = .ok (.getfield 29, 3) := by decide +kernel
theorem dX8_digest_131 : decode cX8_digest 131 = .ok (.getfield 175, 3) := by decide +kernel
theorem dX8_digest_134 : decode cX8_digest 134 = .ok (.i2l, 1) := by decide +kernel
theorem dX8_digest_135 : decode cX8_digest 135 = .ok (.ladd, 1) := by decide +kernel
theorem dX8_digest_136 : decode cX8_digest 136 = .ok (.lstore_n 1, 1) := by decide +kernel
theorem dX8_digest_137 : decode cX8_digest 137 = .ok (.iconst 0, 1) := by decide +kernel
theorem dX8_digest_138 : decode cX8_digest 138 = .ok (.istore_n 3, 1) := by decide +kernel
theorem dX8_digest_139 : decode cX8_digest 139 = .ok (.iload_n 3, 1) := by decide +kernel
theorem dX8_digest_140 : decode cX8_digest 140 = .ok (.aload_n 0, 1) := by decide +kernel
theorem dX8_digest_141 : decode cX8_digest 141 = .ok (.getfield 29, 3) := by decide +kernel
theorem dX8_digest_144 : decode cX8_digest 144 = .ok (.getfield 175, 3) := by decide +kernel
theorem dX8_digest_147 : decode cX8_digest 147 = .ok (.if_icmp .ge 28, 3) := by decide +kernel
theorem dX8_digest_150 : decode cX8_digest 150 = .ok (.ldc2_w 327, 3) := by decide +kernel
theorem dX8_digest_153 : decode cX8_digest 153 = .ok (.lload_n 1, 1) := by decide +kernel
theorem dX8_digest_154 : decode cX8_digest 154 = .ok (.lmul, 1) := by decide +kernel
theorem dX8_digest_155 : decode cX8_digest 155 = .ok (.aload_n 0, 1) := by decide +kernel
theorem dX8_digest_156 : decode cX8_digest 156 = .ok (.getfield 29, 3) := by decide +kernel
theorem dX8_digest_159 : decode cX8_digest 159 = .ok (.getfield 202, 3) := by decide +kernel
theorem dX8_digest_162 : decode cX8_digest 162 = .ok (.iload_n 3, 1) := by decide +kernel
theorem dX8_digest_163 : decode cX8_digest 163 = .ok (.invokestatic 77, 3) := by decide +kernel
theorem dX8_digest_166 : decode cX8_digest 166 = .ok (.i2l, 1) := by decide +kernel
theorem dX8_digest_167 : decode cX8_digest 167 = .ok (.ladd, 1) := by decide +kernel
theorem dX8_digest_168 : decode cX8_digest 168 = .ok (.lstore_n 1, 1) := by decide +kernel
theorem dX8_digest_169 : decode cX8_digest 169 = .ok (.iinc 3 1, 3) := by decide +kernel
theorem dX8_digest_172 : decode cX8_digest 172 = .ok (.goto (-33), 3) := by decide +kernel
theorem dX8_digest_175 : decode cX8_digest 175 = .ok (.lload_n 1, 1) := by decide +kernel
theorem dX8_digest_176 : decode cX8_digest 176 = .ok (.lreturn, 1) := by decide +kernel
theorem dX8_hashPairs_0 : decode cX8_hashPairs 0 = .ok (.lload_n 1, 1) := by decide +kernel
theorem dX8_hashPairs_1 : decode cX8_hashPairs 1 = .ok (.lstore_n 3, 1) := by decide +kernel
theorem dX8_hashPairs_2 : decode cX8_hashPairs 2 = .ok (.iconst 0, 1) := by decide +kernel
theorem dX8_hashPairs_3 : decode cX8_hashPairs 3 = .ok (.istore 5, 2) := by decide +kernel
theorem dX8_hashPairs_5 : decode cX8_hashPairs 5 = .ok (.iload 5, 2) := by decide +kernel
theorem dX8_hashPairs_7 : decode cX8_hashPairs 7 = .ok (.iconst 5, 1) := by decide +kernel
theorem dX8_hashPairs_8 : decode cX8_hashPairs 8 = .ok (.if_icmp .ge 130, 3) := by decide +kernel
theorem dX8_hashPairs_11 : decode cX8_hashPairs 11 = .ok (.iload 5, 2) := by decide +kernel
theorem dX8_hashPairs_13 : decode cX8_hashPairs 13 = .ok (.iconst 1, 1) := by decide +kernel
theorem dX8_hashPairs_14 : decode cX8_hashPairs 14 = .ok (.iadd, 1) := by decide +kernel
theorem dX8_hashPairs_15 : decode cX8_hashPairs 15 = .ok (.istore 6, 2) := by decide +kernel
theorem dX8_hashPairs_17 : decode cX8_hashPairs 17 = .ok (.iload 6, 2) := by decide +kernel
theorem dX8_hashPairs_19 : decode cX8_hashPairs 19 = .ok (.iconst 5, 1) := by decide +kernel
theorem dX8_hashPairs_20 : decode cX8_hashPairs 20 = .ok (.if_icmp .ge 112, 3) := by decide +kernel
theorem dX8_hashPairs_23 : decode cX8_hashPairs 23 = .ok (.ldc2_w 327, 3) := by decide +kernel
theorem dX8_hashPairs_26 : decode cX8_hashPairs 26 = .ok (.lload_n 3, 1) := by decide +kernel
theorem dX8_hashPairs_27 : decode cX8_hashPairs 27 = .ok (.lmul, 1) := by decide +kernel
theorem dX8_hashPairs_28 : decode cX8_hashPairs 28 = .ok (.aload_n 0, 1) := by decide +kernel
theorem dX8_hashPairs_29 : decode cX8_hashPairs 29 = .ok (.iload 5, 2) := by decide +kernel
theorem dX8_hashPairs_31 : decode cX8_hashPairs 31 = .ok (.iload 6, 2) := by decide +kernel
theorem dX8_hashPairs_33 : decode cX8_hashPairs 33 = .ok (.iconst 0, 1) := by decide +kernel
theorem dX8_hashPairs_34 : decode cX8_hashPairs 34 = .ok (.invokevirtual 361, 3) := by decide +kernel
theorem dX8_hashPairs_37 : decode cX8_hashPairs 37 = .ok (.i2l, 1) := by decide +kernel
theorem dX8_hashPairs_38 : decode cX8_hashPairs 38 = .ok (.ladd, 1) := by decide +kernel
theorem dX8_hashPairs_39 : decode cX8_hashPairs 39 = .ok (.lstore_n 3, 1) := by decide +kernel
theorem dX8_hashPairs_40 : decode cX8_hashPairs 40 = .ok (.ldc2_w 327, 3) := by decide +kernel
theorem dX8_hashPairs_43 : decode cX8_hashPairs 43 = .ok (.lload_n 3, 1) := by decide +kernel
theorem dX8_hashPairs_44 : decode cX8_hashPairs 44 = .ok (.lmul, 1) := by decide +kernel
theorem dX8_hashPairs_45 : decode cX8_hashPairs 45 = .ok (.aload_n 0, 1) := by decide +kernel
theorem dX8_hashPairs_46 : decode cX8_hashPairs 46 = .ok (.iload 5, 2) := by decide +kernel
theorem dX8_hashPairs_48 : decode cX8_hashPairs 48 = .ok (.iload 6, 2) := by decide +kernel
theorem dX8_hashPairs_50 : decode cX8_hashPairs 50 = .ok (.iconst 1, 1) := by decide +kernel
theorem dX8_hashPairs_51 : decode cX8_hashPairs 51 = .ok (.invokevirtual 361, 3) := by decide +kernel
theorem dX8_hashPairs_54 : decode cX8_hashPairs 54 = .ok (.i2l, 1) := by decide +kernel
theorem dX8_hashPairs_55 : decode cX8_hashPairs 55 = .ok (.ladd, 1) := by decide +kernel
theorem dX8_hashPairs_56 : decode cX8_hashPairs 56 = .ok (.lstore_n 3, 1) := by decide +kernel
theorem dX8_hashPairs_57 : decode cX8_hashPairs 57 = .ok (.ldc2_w 327, 3) := by decide +kernel
theorem dX8_hashPairs_60 : decode cX8_hashPairs 60 = .ok (.lload_n 3, 1) := by decide +kernel
theorem dX8_hashPairs_61 : decode cX8_hashPairs 61 = .ok (.lmul, 1) := by decide +kernel
theorem dX8_hashPairs_62 : decode cX8_hashPairs 62 = .ok (.aload_n 0, 1) := by decide +kernel
theorem dX8_hashPairs_63 : decode cX8_hashPairs 63 = .ok (.iload 5, 2) := by decide +kernel
theorem dX8_hashPairs_65 : decode cX8_hashPairs 65 = .ok (.iload 6, 2) := by decide +kernel
theorem dX8_hashPairs_67 : decode cX8_hashPairs 67 = .ok (.iconst 2, 1) := by decide +kernel
theorem dX8_hashPairs_68 : decode cX8_hashPairs 68 = .ok (.invokevirtual 361, 3) := by decide +kernel
theorem dX8_hashPairs_71 : decode cX8_hashPairs 71 = .ok (.i2l, 1) := by decide +kernel
theorem dX8_hashPairs_72 : decode cX8_hashPairs 72 = .ok (.ladd, 1) := by decide +kernel
theorem dX8_hashPairs_73 : decode cX8_hashPairs 73 = .ok (.lstore_n 3, 1) := by decide +kernel
theorem dX8_hashPairs_74 : decode cX8_hashPairs 74 = .ok (.ldc2_w 327, 3) := by decide +kernel
theorem dX8_hashPairs_77 : decode cX8_hashPairs 77 = .ok (.lload_n 3, 1) := by decide +kernel
theorem dX8_hashPairs_78 : decode cX8_hashPairs 78 = .ok (.lmul, 1) := by decide +kernel
theorem dX8_hashPairs_79 : decode cX8_hashPairs 79 = .ok (.aload_n 0, 1) := by decide +kernel
theorem dX8_hashPairs_80 : decode cX8_hashPairs 80 = .ok (.iload 5, 2) := by decide +kernel
theorem dX8_hashPairs_82 : decode cX8_hashPairs 82 = .ok (.iload 6, 2) := by decide +kernel
theorem dX8_hashPairs_84 : decode cX8_hashPairs 84 = .ok (.iconst 0, 1) := by decide +kernel
theorem dX8_hashPairs_85 : decode cX8_hashPairs 85 = .ok (.invokevirtual 364, 3) := by decide +kernel
theorem dX8_hashPairs_88 : decode cX8_hashPairs 88 = .ok (.i2l, 1) := by decide +kernel
theorem dX8_hashPairs_89 : decode cX8_hashPairs 89 = .ok (.ladd, 1) := by decide +kernel
theorem dX8_hashPairs_90 : decode cX8_hashPairs 90 = .ok (.lstore_n 3, 1) := by decide +kernel
theorem dX8_hashPairs_91 : decode cX8_hashPairs 91 = .ok (.ldc2_w 327, 3) := by decide +kernel
theorem dX8_hashPairs_94 : decode cX8_hashPairs 94 = .ok (.lload_n 3, 1) := by decide +kernel
theorem dX8_hashPairs_95 : decode cX8_hashPairs 95 = .ok (.lmul, 1) := by decide +kernel
theorem dX8_hashPairs_96 : decode cX8_hashPairs 96 = .ok (.aload_n 0, 1) := by decide +kernel
theorem dX8_hashPairs_97 : decode cX8_hashPairs 97 = .ok (.iload 5, 2) := by decide +kernel
theorem dX8_hashPairs_99 : decode cX8_hashPairs 99 = .ok (.iload 6, 2) := by decide +kernel
theorem dX8_hashPairs_101 : decode cX8_hashPairs 101 = .ok (.iconst 1, 1) := by decide +kernel
theorem dX8_hashPairs_102 : decode cX8_hashPairs 102 = .ok (.invokevirtual 364, 3) := by decide +kernel
theorem dX8_hashPairs_105 : decode cX8_hashPairs 105 = .ok (.i2l, 1) := by decide +kernel
theorem dX8_hashPairs_106 : decode cX8_hashPairs 106 = .ok (.ladd, 1) := by decide +kernel
theorem dX8_hashPairs_107 : decode cX8_hashPairs 107 = .ok (.lstore_n 3, 1) := by decide +kernel
theorem dX8_hashPairs_108 : decode cX8_hashPairs 108 = .ok (.ldc2_w 327, 3) := by decide +kernel
theorem dX8_hashPairs_111 : decode cX8_hashPairs 111 = .ok (.lload_n 3, 1) := by decide +kernel
theorem dX8_hashPairs_112 : decode cX8_hashPairs 112 = .ok (.lmul, 1) := by decide +kernel
theorem dX8_hashPairs_113 : decode cX8_hashPairs 113 = .ok (.aload_n 0, 1) := by decide +kernel
theorem dX8_hashPairs_114 : decode cX8_hashPairs 114 = .ok (.iload 5, 2) := by decide +kernel
theorem dX8_hashPairs_116 : decode cX8_hashPairs 116 = .ok (.iload 6, 2) := by decide +kernel
theorem dX8_hashPairs_118 : decode cX8_hashPairs 118 = .ok (.bipush 100, 2) := by decide +kernel
theorem dX8_hashPairs_120 : decode cX8_hashPairs 120 = .ok (.invokevirtual 367, 3) := by decide +kernel
theorem dX8_hashPairs_123 : decode cX8_hashPairs 123 = .ok (.i2l, 1) := by decide +kernel
theorem dX8_hashPairs_124 : decode cX8_hashPairs 124 = .ok (.ladd, 1) := by decide +kernel
theorem dX8_hashPairs_125 : decode cX8_hashPairs 125 = .ok (.lstore_n 3, 1) := by decide +kernel
theorem dX8_hashPairs_126 : decode cX8_hashPairs 126 = .ok (.iinc 6 1, 3) := by decide +kernel
theorem dX8_hashPairs_129 : decode cX8_hashPairs 129 = .ok (.goto (-112), 3) := by decide +kernel
theorem dX8_hashPairs_132 : decode cX8_hashPairs 132 = .ok (.iinc 5 1, 3) := by decide +kernel
theorem dX8_hashPairs_135 : decode cX8_hashPairs 135 = .ok (.goto (-130), 3) := by decide +kernel
theorem dX8_hashPairs_138 : decode cX8_hashPairs 138 = .ok (.lload_n 3, 1) := by decide +kernel
theorem dX8_hashPairs_139 : decode cX8_hashPairs 139 = .ok (.lreturn, 1) := by decide +kernel
theorem dX8_hashRings_0 : decode cX8_hashRings 0 = .ok (.lload_n 1, 1) := by decide +kernel
theorem dX8_hashRings_1 : decode cX8_hashRings 1 = .ok (.lstore_n 3, 1) := by decide +kernel
theorem dX8_hashRings_2 : decode cX8_hashRings 2 = .ok (.aload_n 0, 1) := by decide +kernel
theorem dX8_hashRings_3 : decode cX8_hashRings 3 = .ok (.getfield 36, 3) := by decide +kernel
theorem dX8_hashRings_6 : decode cX8_hashRings 6 = .ok (.aload_n 0, 1) := by decide +kernel
theorem dX8_hashRings_7 : decode cX8_hashRings 7 = .ok (.getfield 10, 3) := by decide +kernel
theorem dX8_hashRings_10 : decode cX8_hashRings 10 = .ok (.getfield 89, 3) := by decide +kernel
theorem dX8_hashRings_13 : decode cX8_hashRings 13 = .ok (.invokevirtual 114, 3) := by decide +kernel
theorem dX8_hashRings_16 : decode cX8_hashRings 16 = .ok (.istore 5, 2) := by decide +kernel
theorem dX8_hashRings_18 : decode cX8_hashRings 18 = .ok (.iconst 0, 1) := by decide +kernel
theorem dX8_hashRings_19 : decode cX8_hashRings 19 = .ok (.istore 6, 2) := by decide +kernel
theorem dX8_hashRings_21 : decode cX8_hashRings 21 = .ok (.iload 6, 2) := by decide +kernel
theorem dX8_hashRings_23 : decode cX8_hashRings 23 = .ok (.iload 5, 2) := by decide +kernel
theorem dX8_hashRings_25 : decode cX8_hashRings 25 = .ok (.if_icmp .ge 40, 3) := by decide +kernel
theorem dX8_hashRings_28 : decode cX8_hashRings 28 = .ok (.iconst 0, 1) := by decide +kernel
theorem dX8_hashRings_29 : decode cX8_hashRings 29 = .ok (.istore 7, 2) := by decide +kernel
theorem dX8_hashRings_31 : decode cX8_hashRings 31 = .ok (.iload 7, 2) := by decide +kernel
theorem dX8_hashRings_33 : decode cX8_hashRings 33 = .ok (.iconst 3, 1) := by decide +kernel
theorem dX8_hashRings_34 : decode cX8_hashRings 34 = .ok (.if_icmp .gt 25, 3) := by decide +kernel
theorem dX8_hashRings_37 : decode cX8_hashRings 37 = .ok (.ldc2_w 327, 3) := by decide +kernel
theorem dX8_hashRings_40 : decode cX8_hashRings 40 = .ok (.lload_n 3, 1) := by decide +kernel
theorem dX8_hashRings_41 : decode cX8_hashRings 41 = .ok (.lmul, 1) := by decide +kernel
theorem dX8_hashRings_42 : decode cX8_hashRings 42 = .ok (.aload_n 0, 1) := by decide +kernel
theorem dX8_hashRings_43 : decode cX8_hashRings 43 = .ok (.iload 6, 2) := by decide +kernel
theorem dX8_hashRings_45 : decode cX8_hashRings 45 = .ok (.iload 7, 2) := by decide +kernel
theorem dX8_hashRings_47 : decode cX8_hashRings 47 = .ok (.invokevirtual 370, 3) := by decide +kernel
theorem dX8_hashRings_50 : decode cX8_hashRings 50 = .ok (.i2l, 1) := by decide +kernel
theorem dX8_hashRings_51 : decode cX8_hashRings 51 = .ok (.ladd, 1) := by decide +kernel
theorem dX8_hashRings_52 : decode cX8_hashRings 52 = .ok (.lstore_n 3, 1) := by decide +kernel
theorem dX8_hashRings_53 : decode cX8_hashRings 53 = .ok (.iinc 7 1, 3) := by decide +kernel
theorem dX8_hashRings_56 : decode cX8_hashRings 56 = .ok (.goto (-25), 3) := by decide +kernel
theorem dX8_hashRings_59 : decode cX8_hashRings 59 = .ok (.iinc 6 1, 3) := by decide +kernel
theorem dX8_hashRings_62 : decode cX8_hashRings 62 = .ok (.goto (-41), 3) := by decide +kernel
theorem dX8_hashRings_65 : decode cX8_hashRings 65 = .ok (.lload_n 3, 1) := by decide +kernel
theorem dX8_hashRings_66 : decode cX8_hashRings 66 = .ok (.lreturn, 1) := by decide +kernel
theorem dX8_hashBolts_0 : decode cX8_hashBolts 0 = .ok (.lload_n 1, 1) := by decide +kernel
theorem dX8_hashBolts_1 : decode cX8_hashBolts 1 = .ok (.lstore_n 3, 1) := by decide +kernel
theorem dX8_hashBolts_2 : decode cX8_hashBolts 2 = .ok (.aload_n 0, 1) := by decide +kernel
theorem dX8_hashBolts_3 : decode cX8_hashBolts 3 = .ok (.getfield 10, 3) := by decide +kernel
theorem dX8_hashBolts_6 : decode cX8_hashBolts 6 = .ok (.getfield 139, 3) := by decide +kernel
theorem dX8_hashBolts_9 : decode cX8_hashBolts 9 = .ok (.getfield 143, 3) := by decide +kernel
theorem dX8_hashBolts_12 : decode cX8_hashBolts 12 = .ok (.istore 5, 2) := by decide +kernel
theorem dX8_hashBolts_14 : decode cX8_hashBolts 14 = .ok (.iconst 0, 1) := by decide +kernel
theorem dX8_hashBolts_15 : decode cX8_hashBolts 15 = .ok (.istore 6, 2) := by decide +kernel
theorem dX8_hashBolts_17 : decode cX8_hashBolts 17 = .ok (.iload 6, 2) := by decide +kernel
theorem dX8_hashBolts_19 : decode cX8_hashBolts 19 = .ok (.iload 5, 2) := by decide +kernel
theorem dX8_hashBolts_21 : decode cX8_hashBolts 21 = .ok (.if_icmp .ge 40, 3) := by decide +kernel
theorem dX8_hashBolts_24 : decode cX8_hashBolts 24 = .ok (.iconst 0, 1) := by decide +kernel
theorem dX8_hashBolts_25 : decode cX8_hashBolts 25 = .ok (.istore 7, 2) := by decide +kernel
theorem dX8_hashBolts_27 : decode cX8_hashBolts 27 = .ok (.iload 7, 2) := by decide +kernel
theorem dX8_hashBolts_29 : decode cX8_hashBolts 29 = .ok (.iconst 3, 1) := by decide +kernel
theorem dX8_hashBolts_30 : decode cX8_hashBolts 30 = .ok (.if_icmp .gt 25, 3) := by decide +kernel
theorem dX8_hashBolts_33 : decode cX8_hashBolts 33 = .ok (.ldc2_w 327, 3) := by decide +kernel
theorem dX8_hashBolts_36 : decode cX8_hashBolts 36 = .ok (.lload_n 3, 1) := by decide +kernel
theorem dX8_hashBolts_37 : decode cX8_hashBolts 37 = .ok (.lmul, 1) := by decide +kernel
theorem dX8_hashBolts_38 : decode cX8_hashBolts 38 = .ok (.aload_n 0, 1) := by decide +kernel
theorem dX8_hashBolts_39 : decode cX8_hashBolts 39 = .ok (.iload 6, 2) := by decide +kernel
theorem dX8_hashBolts_41 : decode cX8_hashBolts 41 = .ok (.iload 7, 2) := by decide +kernel
theorem dX8_hashBolts_43 : decode cX8_hashBolts 43 = .ok (.invokevirtual 373, 3) := by decide +kernel
theorem dX8_hashBolts_46 : decode cX8_hashBolts 46 = .ok (.i2l, 1) := by decide +kernel
theorem dX8_hashBolts_47 : decode cX8_hashBolts 47 = .ok (.ladd, 1) := by decide +kernel
theorem dX8_hashBolts_48 : decode cX8_hashBolts 48 = .ok (.lstore_n 3, 1) := by decide +kernel
theorem dX8_hashBolts_49 : decode cX8_hashBolts 49 = .ok (.iinc 7 1, 3) := by decide +kernel
theorem dX8_hashBolts_52 : decode cX8_hashBolts 52 = .ok (.goto (-25), 3) := by decide +kernel
theorem dX8_hashBolts_55 : decode cX8_hashBolts 55 = .ok (.iinc 6 1, 3) := by decide +kernel
theorem dX8_hashBolts_58 : decode cX8_hashBolts 58 = .ok (.goto (-41), 3) := by decide +kernel
theorem dX8_hashBolts_61 : decode cX8_hashBolts 61 = .ok (.lload_n 3, 1) := by decide +kernel
theorem dX8_hashBolts_62 : decode cX8_hashBolts 62 = .ok (.lreturn, 1) := by decide +kernel
theorem dX8_bitsOfShare_0 : decode cX8_bitsOfShare 0 = .ok (.dload_n 0, 1) := by decide +kernel
theorem dX8_bitsOfShare_1 : decode cX8_bitsOfShare 1 = .ok (.dconst 0, 1) := by decide +kernel
theorem dX8_bitsOfShare_2 : decode cX8_bitsOfShare 2 = .ok (.dcmp .l, 1) := by decide +kernel
theorem dX8_bitsOfShare_3 : decode cX8_bitsOfShare 3 = .ok (.ifCond .gt 5, 3) := by decide +kernel
theorem dX8_bitsOfShare_6 : decode cX8_bitsOfShare 6 = .ok (.lconst 0, 1) := by decide +kernel
theorem dX8_bitsOfShare_7 : decode cX8_bitsOfShare 7 = .ok (.lreturn, 1) := by decide +kernel
theorem dX8_bitsOfShare_8 : decode cX8_bitsOfShare 8 = .ok (.dload_n 0, 1) := by decide +kernel
theorem dX8_bitsOfShare_9 : decode cX8_bitsOfShare 9 = .ok (.dstore_n 2, 1) := by decide +kernel
theorem dX8_bitsOfShare_10 : decode cX8_bitsOfShare 10 = .ok (.ldc2_w 376, 3) := by decide +kernel
theorem dX8_bitsOfShare_13 : decode cX8_bitsOfShare 13 = .ok (.lstore 4, 2) := by decide +kernel
theorem dX8_bitsOfShare_15 : decode cX8_bitsOfShare 15 = .ok (.iconst 0, 1) := by decide +kernel
theorem dX8_bitsOfShare_16 : decode cX8_bitsOfShare 16 = .ok (.istore 6, 2) := by decide +kernel
theorem dX8_bitsOfShare_18 : decode cX8_bitsOfShare 18 = .ok (.iload 6, 2) := by decide +kernel
theorem dX8_bitsOfShare_20 : decode cX8_bitsOfShare 20 = .ok (.sipush 1000, 3) := by decide +kernel
theorem dX8_bitsOfShare_23 : decode cX8_bitsOfShare 23 = .ok (.if_icmp .ge 27, 3) := by decide +kernel
theorem dX8_bitsOfShare_26 : decode cX8_bitsOfShare 26 = .ok (.dload_n 2, 1) := by decide +kernel
theorem dX8_bitsOfShare_27 : decode cX8_bitsOfShare 27 = .ok (.dconst 1, 1) := by decide +kernel
theorem dX8_bitsOfShare_28 : decode cX8_bitsOfShare 28 = .ok (.dcmp .g, 1) := by decide +kernel
theorem dX8_bitsOfShare_29 : decode cX8_bitsOfShare 29 = .ok (.ifCond .ge 21, 3) := by decide +kernel
theorem dX8_bitsOfShare_32 : decode cX8_bitsOfShare 32 = .ok (.dload_n 2, 1) := by decide +kernel
theorem dX8_bitsOfShare_33 : decode cX8_bitsOfShare 33 = .ok (.ldc2_w 378, 3) := by decide +kernel
theorem dX8_bitsOfShare_36 : decode cX8_bitsOfShare 36 = .ok (.dmul, 1) := by decide +kernel
theorem dX8_bitsOfShare_37 : decode cX8_bitsOfShare 37 = .ok (.dstore_n 2, 1) := by decide +kernel
theorem dX8_bitsOfShare_38 : decode cX8_bitsOfShare 38 = .ok (.lload 4, 2) := by decide +kernel
theorem dX8_bitsOfShare_40 : decode cX8_bitsOfShare 40 = .ok (.lconst 1, 1) := by decide +kernel
theorem dX8_bitsOfShare_41 : decode cX8_bitsOfShare 41 = .ok (.lsub, 1) := by decide +kernel
theorem dX8_bitsOfShare_42 : decode cX8_bitsOfShare 42 = .ok (.lstore 4, 2) := by decide +kernel
theorem dX8_bitsOfShare_44 : decode cX8_bitsOfShare 44 = .ok (.iinc 6 1, 3) := by decide +kernel
theorem dX8_bitsOfShare_47 : decode cX8_bitsOfShare 47 = .ok (.goto (-29), 3) := by decide +kernel
theorem dX8_bitsOfShare_50 : decode cX8_bitsOfShare 50 = .ok (.dload_n 2, 1) := by decide +kernel
theorem dX8_bitsOfShare_51 : decode cX8_bitsOfShare 51 = .ok (.ldc2_w 380, 3) := by decide +kernel
theorem dX8_bitsOfShare_54 : decode cX8_bitsOfShare 54 = .ok (.dmul, 1) := by decide +kernel
theorem dX8_bitsOfShare_55 : decode cX8_bitsOfShare 55 = .ok (.d2l, 1) := by decide +kernel
theorem dX8_bitsOfShare_56 : decode cX8_bitsOfShare 56 = .ok (.lstore 6, 2) := by decide +kernel
theorem dX8_bitsOfShare_58 : decode cX8_bitsOfShare 58 = .ok (.lload 4, 2) := by decide +kernel
theorem dX8_bitsOfShare_60 : decode cX8_bitsOfShare 60 = .ok (.bipush 52, 2) := by decide +kernel
theorem dX8_bitsOfShare_62 : decode cX8_bitsOfShare 62 = .ok (.lshl, 1) := by decide +kernel
theorem dX8_bitsOfShare_63 : decode cX8_bitsOfShare 63 = .ok (.lload 6, 2) := by decide +kernel
theorem dX8_bitsOfShare_65 : decode cX8_bitsOfShare 65 = .ok (.ldc2_w 382, 3) := by decide +kernel
theorem dX8_bitsOfShare_68 : decode cX8_bitsOfShare 68 = .ok (.lsub, 1) := by decide +kernel
theorem dX8_bitsOfShare_69 : decode cX8_bitsOfShare 69 = .ok (.ladd, 1) := by decide +kernel
theorem dX8_bitsOfShare_70 : decode cX8_bitsOfShare 70 = .ok (.lreturn, 1) := by decide +kernel
theorem dX8_doPart_0 : decode cX8_doPart 0 = .ok (.aload_n 0, 1) := by decide +kernel
theorem dX8_doPart_1 : decode cX8_doPart 1 = .ok (.getfield 54, 3) := by decide +kernel
theorem dX8_doPart_4 : decode cX8_doPart 4 = .ok (.iconst 0, 1) := by decide +kernel
theorem dX8_doPart_5 : decode cX8_doPart 5 = .ok (.invokestatic 77, 3) := by decide +kernel
theorem dX8_doPart_8 : decode cX8_doPart 8 = .ok (.istore_n 2, 1) := by decide +kernel
theorem dX8_doPart_9 : decode cX8_doPart 9 = .ok (.aload_n 0, 1) := by decide +kernel
theorem dX8_doPart_10 : decode cX8_doPart 10 = .ok (.getfield 54, 3) := by decide +kernel
theorem dX8_doPart_13 : decode cX8_doPart 13 = .ok (.iconst 1, 1) := by decide +kernel
theorem dX8_doPart_14 : decode cX8_doPart 14 = .ok (.invokestatic 77, 3) := by decide +kernel
theorem dX8_doPart_17 : decode cX8_doPart 17 = .ok (.istore_n 3, 1) := by decide +kernel
theorem dX8_doPart_18 : decode cX8_doPart 18 = .ok (.iload_n 1, 1) := by decide +kernel
theorem dX8_doPart_19 : decode cX8_doPart 19 = .ok (.lookupswitch 54 #[(45, 33), (98, 40), (115, 47)], 33) := by decide +kernel
theorem dX8_doPart_52 : decode cX8_doPart 52 = .ok (.aload_n 0, 1) := by decide +kernel
theorem dX8_doPart_53 : decode cX8_doPart 53 = .ok (.iload_n 2, 1) := by decide +kernel
theorem dX8_doPart_54 : decode cX8_doPart 54 = .ok (.iload_n 3, 1) := by decide +kernel
theorem dX8_doPart_55 : decode cX8_doPart 55 = .ok (.invokevirtual 384, 3) := by decide +kernel
theorem dX8_doPart_58 : decode cX8_doPart 58 = .ok (.ireturn, 1) := by decide +kernel
theorem dX8_doPart_59 : decode cX8_doPart 59 = .ok (.aload_n 0, 1) := by decide +kernel
theorem dX8_doPart_60 : decode cX8_doPart 60 = .ok (.iload_n 2, 1) := by decide +kernel
theorem dX8_doPart_61 : decode cX8_doPart 61 = .ok (.iload_n 3, 1) := by decide +kernel
theorem dX8_doPart_62 : decode cX8_doPart 62 = .ok (.invokevirtual 387, 3) := by decide +kernel
theorem dX8_doPart_65 : decode cX8_doPart 65 = .ok (.ireturn, 1) := by decide +kernel
theorem dX8_doPart_66 : decode cX8_doPart 66 = .ok (.aload_n 0, 1) := by decide +kernel
theorem dX8_doPart_67 : decode cX8_doPart 67 = .ok (.iload_n 2, 1) := by decide +kernel
theorem dX8_doPart_68 : decode cX8_doPart 68 = .ok (.iload_n 3, 1) := by decide +kernel
theorem dX8_doPart_69 : decode cX8_doPart 69 = .ok (.invokevirtual 390, 3) := by decide +kernel
theorem dX8_doPart_72 : decode cX8_doPart 72 = .ok (.ireturn, 1) := by decide +kernel
theorem dX8_doPart_73 : decode cX8_doPart 73 = .ok (.aload_n 0, 1) := by decide +kernel
theorem dX8_doPart_74 : decode cX8_doPart 74 = .ok (.iload_n 2, 1) := by decide +kernel
theorem dX8_doPart_75 : decode cX8_doPart 75 = .ok (.iload_n 3, 1) := by decide +kernel
theorem dX8_doPart_76 : decode cX8_doPart 76 = .ok (.aload_n 0, 1) := by decide +kernel
theorem dX8_doPart_77 : decode cX8_doPart 77 = .ok (.getfield 54, 3) := by decide +kernel
theorem dX8_doPart_80 : decode cX8_doPart 80 = .ok (.iconst 2, 1) := by decide +kernel
theorem dX8_doPart_81 : decode cX8_doPart 81 = .ok (.invokestatic 77, 3) := by decide +kernel
theorem dX8_doPart_84 : decode cX8_doPart 84 = .ok (.aload_n 0, 1) := by decide +kernel
theorem dX8_doPart_85 : decode cX8_doPart 85 = .ok (.getfield 54, 3) := by decide +kernel
theorem dX8_doPart_88 : decode cX8_doPart 88 = .ok (.iconst 3, 1) := by decide +kernel
theorem dX8_doPart_89 : decode cX8_doPart 89 = .ok (.invokestatic 77, 3) := by decide +kernel
theorem dX8_doPart_92 : decode cX8_doPart 92 = .ok (.invokevirtual 393, 3) := by decide +kernel
theorem dX8_doPart_95 : decode cX8_doPart 95 = .ok (.ireturn, 1) := by decide +kernel
theorem dX8_doTable_0 : decode cX8_doTable 0 = .ok (.iload_n 1, 1) := by decide +kernel
theorem dX8_doTable_1 : decode cX8_doTable 1 = .ok (.iload_n 2, 1) := by decide +kernel
theorem dX8_doTable_2 : decode cX8_doTable 2 = .ok (.if_icmp .ne 5, 3) := by decide +kernel
theorem dX8_doTable_5 : decode cX8_doTable 5 = .ok (.iconst 4, 1) := by decide +kernel
theorem dX8_doTable_6 : decode cX8_doTable 6 = .ok (.ireturn, 1) := by decide +kernel
theorem dX8_doTable_7 : decode cX8_doTable 7 = .ok (.aload_n 0, 1) := by decide +kernel
theorem dX8_doTable_8 : decode cX8_doTable 8 = .ok (.getfield 36, 3) := by decide +kernel
theorem dX8_doTable_11 : decode cX8_doTable 11 = .ok (.aload_n 0, 1) := by decide +kernel
theorem dX8_doTable_12 : decode cX8_doTable 12 = .ok (.getfield 10, 3) := by decide +kernel
theorem dX8_doTable_15 : decode cX8_doTable 15 = .ok (.getfield 89, 3) := by decide +kernel
theorem dX8_doTable_18 : decode cX8_doTable 18 = .ok (.iload_n 1, 1) := by decide +kernel
theorem dX8_doTable_19 : decode cX8_doTable 19 = .ok (.iload_n 2, 1) := by decide +kernel
theorem dX8_doTable_20 : decode cX8_doTable 20 = .ok (.iload_n 3, 1) := by decide +kernel
theorem dX8_doTable_21 : decode cX8_doTable 21 = .ok (.iload 4, 2) := by decide +kernel
theorem dX8_doTable_23 : decode cX8_doTable 23 = .ok (.aload_n 0, 1) := by decide +kernel
theorem dX8_doTable_24 : decode cX8_doTable 24 = .ok (.invokevirtual 93, 3) := by decide +kernel
theorem dX8_doTable_27 : decode cX8_doTable 27 = .ok (.invokevirtual 97, 3) := by decide +kernel
theorem dX8_doTable_30 : decode cX8_doTable 30 = .ok (.ifCond .lt 5, 3) := by decide +kernel
theorem dX8_doTable_33 : decode cX8_doTable 33 = .ok (.iconst 5, 1) := by decide +kernel
theorem dX8_doTable_34 : decode cX8_doTable 34 = .ok (.ireturn, 1) := by decide +kernel
theorem dX8_doTable_35 : decode cX8_doTable 35 = .ok (.aload_n 0, 1) := by decide +kernel
theorem dX8_doTable_36 : decode cX8_doTable 36 = .ok (.getfield 10, 3) := by decide +kernel
theorem dX8_doTable_39 : decode cX8_doTable 39 = .ok (.getfield 89, 3) := by decide +kernel
theorem dX8_doTable_42 : decode cX8_doTable 42 = .ok (.iload_n 1, 1) := by decide +kernel
theorem dX8_doTable_43 : decode cX8_doTable 43 = .ok (.iload_n 2, 1) := by decide +kernel
theorem dX8_doTable_44 : decode cX8_doTable 44 = .ok (.iload_n 3, 1) := by decide +kernel
theorem dX8_doTable_45 : decode cX8_doTable 45 = .ok (.iload 4, 2) := by decide +kernel
theorem dX8_doTable_47 : decode cX8_doTable 47 = .ok (.invokevirtual 108, 3) := by decide +kernel
theorem dX8_doTable_50 : decode cX8_doTable 50 = .ok (.iconst 0, 1) := by decide +kernel
theorem dX8_doTable_51 : decode cX8_doTable 51 = .ok (.ireturn, 1) := by decide +kernel
theorem dX8_doDrop_0 : decode cX8_doDrop 0 = .ok (.iload_n 1, 1) := by decide +kernel
theorem dX8_doDrop_1 : decode cX8_doDrop 1 = .ok (.iload_n 2, 1) := by decide +kernel
theorem dX8_doDrop_2 : decode cX8_doDrop 2 = .ok (.if_icmp .ne 5, 3) := by decide +kernel
theorem dX8_doDrop_5 : decode cX8_doDrop 5 = .ok (.iconst 4, 1) := by decide +kernel
theorem dX8_doDrop_6 : decode cX8_doDrop 6 = .ok (.ireturn, 1) := by decide +kernel
theorem dX8_doDrop_7 : decode cX8_doDrop 7 = .ok (.aload_n 0, 1) := by decide +kernel
theorem dX8_doDrop_8 : decode cX8_doDrop 8 = .ok (.getfield 10, 3) := by decide +kernel
theorem dX8_doDrop_11 : decode cX8_doDrop 11 = .ok (.getfield 89, 3) := by decide +kernel
theorem dX8_doDrop_14 : decode cX8_doDrop 14 = .ok (.iload_n 1, 1) := by decide +kernel
theorem dX8_doDrop_15 : decode cX8_doDrop 15 = .ok (.iload_n 2, 1) := by decide +kernel
theorem dX8_doDrop_16 : decode cX8_doDrop 16 = .ok (.invokevirtual 118, 3) := by decide +kernel
theorem dX8_doDrop_19 : decode cX8_doDrop 19 = .ok (.ifCond .ne 6, 3) := by decide +kernel
theorem dX8_doDrop_22 : decode cX8_doDrop 22 = .ok (.bipush 6, 2) := by decide +kernel
theorem dX8_doDrop_24 : decode cX8_doDrop 24 = .ok (.ireturn, 1) := by decide +kernel
theorem dX8_doDrop_25 : decode cX8_doDrop 25 = .ok (.aload_n 0, 1) := by decide +kernel
theorem dX8_doDrop_26 : decode cX8_doDrop 26 = .ok (.getfield 10, 3) := by decide +kernel
theorem dX8_doDrop_29 : decode cX8_doDrop 29 = .ok (.getfield 89, 3) := by decide +kernel
theorem dX8_doDrop_32 : decode cX8_doDrop 32 = .ok (.iload_n 1, 1) := by decide +kernel
theorem dX8_doDrop_33 : decode cX8_doDrop 33 = .ok (.iload_n 2, 1) := by decide +kernel
theorem dX8_doDrop_34 : decode cX8_doDrop 34 = .ok (.iconst 0, 1) := by decide +kernel
theorem dX8_doDrop_35 : decode cX8_doDrop 35 = .ok (.iconst 0, 1) := by decide +kernel
theorem dX8_doDrop_36 : decode cX8_doDrop 36 = .ok (.invokevirtual 108, 3) := by decide +kernel
theorem dX8_doDrop_39 : decode cX8_doDrop 39 = .ok (.iconst 0, 1) := by decide +kernel
theorem dX8_doDrop_40 : decode cX8_doDrop 40 = .ok (.ireturn, 1) := by decide +kernel
theorem dX8_doBolt_0 : decode cX8_doBolt 0 = .ok (.aload_n 0, 1) := by decide +kernel
theorem dX8_doBolt_1 : decode cX8_doBolt 1 = .ok (.getfield 10, 3) := by decide +kernel
theorem dX8_doBolt_4 : decode cX8_doBolt 4 = .ok (.getfield 139, 3) := by decide +kernel
theorem dX8_doBolt_7 : decode cX8_doBolt 7 = .ok (.getfield 143, 3) := by decide +kernel
theorem dX8_doBolt_10 : decode cX8_doBolt 10 = .ok (.bipush 8, 2) := by decide +kernel
theorem dX8_doBolt_12 : decode cX8_doBolt 12 = .ok (.if_icmp .lt 6, 3) := by decide +kernel
theorem dX8_doBolt_15 : decode cX8_doBolt 15 = .ok (.bipush 8, 2) := by decide +kernel
theorem dX8_doBolt_17 : decode cX8_doBolt 17 = .ok (.ireturn, 1) := by decide +kernel
theorem dX8_doBolt_18 : decode cX8_doBolt 18 = .ok (.aload_n 0, 1) := by decide +kernel
theorem dX8_doBolt_19 : decode cX8_doBolt 19 = .ok (.getfield 10, 3) := by decide +kernel
theorem dX8_doBolt_22 : decode cX8_doBolt 22 = .ok (.getfield 139, 3) := by decide +kernel
theorem dX8_doBolt_25 : decode cX8_doBolt 25 = .ok (.iload_n 1, 1) := by decide +kernel
theorem dX8_doBolt_26 : decode cX8_doBolt 26 = .ok (.iload_n 2, 1) := by decide +kernel
theorem dX8_doBolt_27 : decode cX8_doBolt 27 = .ok (.invokevirtual 151, 3) := by decide +kernel
theorem dX8_doBolt_30 : decode cX8_doBolt 30 = .ok (.iconst 0, 1) := by decide +kernel
theorem dX8_doBolt_31 : decode cX8_doBolt 31 = .ok (.ireturn, 1) := by decide +kernel
theorem dX8_doSend_0 : decode cX8_doSend 0 = .ok (.aload_n 0, 1) := by decide +kernel
theorem dX8_doSend_1 : decode cX8_doSend 1 = .ok (.getfield 10, 3) := by decide +kernel
theorem dX8_doSend_4 : decode cX8_doSend 4 = .ok (.getfield 139, 3) := by decide +kernel
theorem dX8_doSend_7 : decode cX8_doSend 7 = .ok (.iload_n 1, 1) := by decide +kernel
theorem dX8_doSend_8 : decode cX8_doSend 8 = .ok (.invokevirtual 396, 3) := by decide +kernel
theorem dX8_doSend_11 : decode cX8_doSend 11 = .ok (.ifCond .ne 6, 3) := by decide +kernel
theorem dX8_doSend_14 : decode cX8_doSend 14 = .ok (.bipush 7, 2) := by decide +kernel
theorem dX8_doSend_16 : decode cX8_doSend 16 = .ok (.ireturn, 1) := by decide +kernel
theorem dX8_doSend_17 : decode cX8_doSend 17 = .ok (.aload_n 0, 1) := by decide +kernel
theorem dX8_doSend_18 : decode cX8_doSend 18 = .ok (.iload_n 1, 1) := by decide +kernel
theorem dX8_doSend_19 : decode cX8_doSend 19 = .ok (.iload_n 2, 1) := by decide +kernel
theorem dX8_doSend_20 : decode cX8_doSend 20 = .ok (.invokevirtual 157, 3) := by decide +kernel
theorem dX8_doSend_23 : decode cX8_doSend 23 = .ok (.istore_n 3, 1) := by decide +kernel
theorem dX8_doSend_24 : decode cX8_doSend 24 = .ok (.iload_n 3, 1) := by decide +kernel
theorem dX8_doSend_25 : decode cX8_doSend 25 = .ok (.ifCond .ne 9, 3) := by decide +kernel
theorem dX8_doSend_28 : decode cX8_doSend 28 = .ok (.aload_n 0, 1) := by decide +kernel
theorem dX8_doSend_29 : decode cX8_doSend 29 = .ok (.iload_n 1, 1) := by decide +kernel
theorem dX8_doSend_30 : decode cX8_doSend 30 = .ok (.iload_n 2, 1) := by decide +kernel
theorem dX8_doSend_31 : decode cX8_doSend 31 = .ok (.invokevirtual 163, 3) := by decide +kernel
theorem dX8_doSend_34 : decode cX8_doSend 34 = .ok (.iload_n 3, 1) := by decide +kernel
theorem dX8_doSend_35 : decode cX8_doSend 35 = .ok (.ireturn, 1) := by decide +kernel
theorem dX8_whyNoSend_0 : decode cX8_whyNoSend 0 = .ok (.aload_n 0, 1) := by decide +kernel
theorem dX8_whyNoSend_1 : decode cX8_whyNoSend 1 = .ok (.getfield 10, 3) := by decide +kernel
theorem dX8_whyNoSend_4 : decode cX8_whyNoSend 4 = .ok (.getfield 139, 3) := by decide +kernel
theorem dX8_whyNoSend_7 : decode cX8_whyNoSend 7 = .ok (.getfield 169, 3) := by decide +kernel
theorem dX8_whyNoSend_10 : decode cX8_whyNoSend 10 = .ok (.iload_n 1, 1) := by decide +kernel
theorem dX8_whyNoSend_11 : decode cX8_whyNoSend 11 = .ok (.invokestatic 77, 3) := by decide +kernel
theorem dX8_whyNoSend_14 : decode cX8_whyNoSend 14 = .ok (.istore_n 3, 1) := by decide +kernel
theorem dX8_whyNoSend_15 : decode cX8_whyNoSend 15 = .ok (.iload_n 3, 1) := by decide +kernel
theorem dX8_whyNoSend_16 : decode cX8_whyNoSend 16 = .ok (.iload_n 2, 1) := by decide +kernel
theorem dX8_whyNoSend_17 : decode cX8_whyNoSend 17 = .ok (.if_icmp .ne 5, 3) := by decide +kernel
theorem dX8_whyNoSend_20 : decode cX8_whyNoSend 20 = .ok (.iconst 1, 1) := by decide +kernel
theorem dX8_whyNoSend_21 : decode cX8_whyNoSend 21 = .ok (.ireturn, 1) := by decide +kernel
theorem dX8_whyNoSend_22 : decode cX8_whyNoSend 22 = .ok (.aload_n 0, 1) := by decide +kernel
theorem dX8_whyNoSend_23 : decode cX8_whyNoSend 23 = .ok (.getfield 10, 3) := by decide +kernel
theorem dX8_whyNoSend_26 : decode cX8_whyNoSend 26 = .ok (.getfield 89, 3) := by decide +kernel
theorem dX8_whyNoSend_29 : decode cX8_whyNoSend 29 = .ok (.iload_n 3, 1) := by decide +kernel
theorem dX8_whyNoSend_30 : decode cX8_whyNoSend 30 = .ok (.iload_n 2, 1) := by decide +kernel
theorem dX8_whyNoSend_31 : decode cX8_whyNoSend 31 = .ok (.invokevirtual 118, 3) := by decide +kernel
theorem dX8_whyNoSend_34 : decode cX8_whyNoSend 34 = .ok (.ifCond .ne 5, 3) := by decide +kernel
theorem dX8_whyNoSend_37 : decode cX8_whyNoSend 37 = .ok (.iconst 2, 1) := by decide +kernel
theorem dX8_whyNoSend_38 : decode cX8_whyNoSend 38 = .ok (.ireturn, 1) := by decide +kernel
theorem dX8_whyNoSend_39 : decode cX8_whyNoSend 39 = .ok (.aload_n 0, 1) := by decide +kernel
theorem dX8_whyNoSend_40 : decode cX8_whyNoSend 40 = .ok (.iload_n 1, 1) := by decide +kernel
theorem dX8_whyNoSend_41 : decode cX8_whyNoSend 41 = .ok (.iload_n 2, 1) := by decide +kernel
theorem dX8_whyNoSend_42 : decode cX8_whyNoSend 42 = .ok (.invokevirtual 399, 3) := by decide +kernel
theorem dX8_whyNoSend_45 : decode cX8_whyNoSend 45 = .ok (.ldc2_w 403, 3) := by decide +kernel
theorem dX8_whyNoSend_48 : decode cX8_whyNoSend 48 = .ok (.lcmp, 1) := by decide +kernel
theorem dX8_whyNoSend_49 : decode cX8_whyNoSend 49 = .ok (.ifCond .le 7, 3) := by decide +kernel
theorem dX8_whyNoSend_52 : decode cX8_whyNoSend 52 = .ok (.iconst 3, 1) := by decide +kernel
theorem dX8_whyNoSend_53 : decode cX8_whyNoSend 53 = .ok (.goto 4, 3) := by decide +kernel
theorem dX8_whyNoSend_56 : decode cX8_whyNoSend 56 = .ok (.iconst 0, 1) := by decide +kernel
theorem dX8_whyNoSend_57 : decode cX8_whyNoSend 57 = .ok (.ireturn, 1) := by decide +kernel
theorem dX8_lengthSent_0 : decode cX8_lengthSent 0 = .ok (.aload_n 0, 1) := by decide +kernel
theorem dX8_lengthSent_1 : decode cX8_lengthSent 1 = .ok (.getfield 10, 3) := by decide +kernel
theorem dX8_lengthSent_4 : decode cX8_lengthSent 4 = .ok (.getfield 139, 3) := by decide +kernel
theorem dX8_lengthSent_7 : decode cX8_lengthSent 7 = .ok (.getfield 169, 3) := by decide +kernel
theorem dX8_lengthSent_10 : decode cX8_lengthSent 10 = .ok (.iload_n 1, 1) := by decide +kernel
theorem dX8_lengthSent_11 : decode cX8_lengthSent 11 = .ok (.invokestatic 77, 3) := by decide +kernel
theorem dX8_lengthSent_14 : decode cX8_lengthSent 14 = .ok (.istore_n 3, 1) := by decide +kernel
theorem dX8_lengthSent_15 : decode cX8_lengthSent 15 = .ok (.aload_n 0, 1) := by decide +kernel
theorem dX8_lengthSent_16 : decode cX8_lengthSent 16 = .ok (.getfield 10, 3) := by decide +kernel
theorem dX8_lengthSent_19 : decode cX8_lengthSent 19 = .ok (.getfield 139, 3) := by decide +kernel
theorem dX8_lengthSent_22 : decode cX8_lengthSent 22 = .ok (.getfield 166, 3) := by decide +kernel
theorem dX8_lengthSent_25 : decode cX8_lengthSent 25 = .ok (.iload_n 1, 1) := by decide +kernel
theorem dX8_lengthSent_26 : decode cX8_lengthSent 26 = .ok (.invokestatic 77, 3) := by decide +kernel
theorem dX8_lengthSent_29 : decode cX8_lengthSent 29 = .ok (.istore 4, 2) := by decide +kernel
theorem dX8_lengthSent_31 : decode cX8_lengthSent 31 = .ok (.iload 4, 2) := by decide +kernel
theorem dX8_lengthSent_33 : decode cX8_lengthSent 33 = .ok (.i2l, 1) := by decide +kernel
theorem dX8_lengthSent_34 : decode cX8_lengthSent 34 = .ok (.aload_n 0, 1) := by decide +kernel
theorem dX8_lengthSent_35 : decode cX8_lengthSent 35 = .ok (.getfield 10, 3) := by decide +kernel
theorem dX8_lengthSent_38 : decode cX8_lengthSent 38 = .ok (.getfield 89, 3) := by decide +kernel
theorem dX8_lengthSent_41 : decode cX8_lengthSent 41 = .ok (.iload_n 3, 1) := by decide +kernel
theorem dX8_lengthSent_42 : decode cX8_lengthSent 42 = .ok (.iload_n 2, 1) := by decide +kernel
theorem dX8_lengthSent_43 : decode cX8_lengthSent 43 = .ok (.invokevirtual 236, 3) := by decide +kernel
theorem dX8_lengthSent_46 : decode cX8_lengthSent 46 = .ok (.aload_n 0, 1) := by decide +kernel
theorem dX8_lengthSent_47 : decode cX8_lengthSent 47 = .ok (.getfield 10, 3) := by decide +kernel
theorem dX8_lengthSent_50 : decode cX8_lengthSent 50 = .ok (.getfield 89, 3) := by decide +kernel
theorem dX8_lengthSent_53 : decode cX8_lengthSent 53 = .ok (.iload_n 2, 1) := by decide +kernel
theorem dX8_lengthSent_54 : decode cX8_lengthSent 54 = .ok (.iload_n 3, 1) := by decide +kernel
theorem dX8_lengthSent_55 : decode cX8_lengthSent 55 = .ok (.invokevirtual 236, 3) := by decide +kernel
theorem dX8_lengthSent_58 : decode cX8_lengthSent 58 = .ok (.aload_n 0, 1) := by decide +kernel
theorem dX8_lengthSent_59 : decode cX8_lengthSent 59 = .ok (.invokevirtual 295, 3) := by decide +kernel
theorem dX8_lengthSent_62 : decode cX8_lengthSent 62 = .ok (.invokestatic 298, 3) := by decide +kernel
theorem dX8_lengthSent_65 : decode cX8_lengthSent 65 = .ok (.lreturn, 1) := by decide +kernel
theorem dX8_moveBolt_0 : decode cX8_moveBolt 0 = .ok (.aload_n 0, 1) := by decide +kernel
theorem dX8_moveBolt_1 : decode cX8_moveBolt 1 = .ok (.getfield 10, 3) := by decide +kernel
theorem dX8_moveBolt_4 : decode cX8_moveBolt 4 = .ok (.getfield 139, 3) := by decide +kernel
theorem dX8_moveBolt_7 : decode cX8_moveBolt 7 = .ok (.getfield 169, 3) := by decide +kernel
theorem dX8_moveBolt_10 : decode cX8_moveBolt 10 = .ok (.iload_n 1, 1) := by decide +kernel
theorem dX8_moveBolt_11 : decode cX8_moveBolt 11 = .ok (.invokestatic 77, 3) := by decide +kernel
theorem dX8_moveBolt_14 : decode cX8_moveBolt 14 = .ok (.istore_n 3, 1) := by decide +kernel
theorem dX8_moveBolt_15 : decode cX8_moveBolt 15 = .ok (.aload_n 0, 1) := by decide +kernel
theorem dX8_moveBolt_16 : decode cX8_moveBolt 16 = .ok (.getfield 10, 3) := by decide +kernel
theorem dX8_moveBolt_19 : decode cX8_moveBolt 19 = .ok (.getfield 139, 3) := by decide +kernel
theorem dX8_moveBolt_22 : decode cX8_moveBolt 22 = .ok (.getfield 166, 3) := by decide +kernel
theorem dX8_moveBolt_25 : decode cX8_moveBolt 25 = .ok (.iload_n 1, 1) := by decide +kernel
theorem dX8_moveBolt_26 : decode cX8_moveBolt 26 = .ok (.invokestatic 77, 3) := by decide +kernel
theorem dX8_moveBolt_29 : decode cX8_moveBolt 29 = .ok (.istore 4, 2) := by decide +kernel
theorem dX8_moveBolt_31 : decode cX8_moveBolt 31 = .ok (.aload_n 0, 1) := by decide +kernel
theorem dX8_moveBolt_32 : decode cX8_moveBolt 32 = .ok (.iload_n 1, 1) := by decide +kernel
theorem dX8_moveBolt_33 : decode cX8_moveBolt 33 = .ok (.iload_n 2, 1) := by decide +kernel
theorem dX8_moveBolt_34 : decode cX8_moveBolt 34 = .ok (.invokevirtual 399, 3) := by decide +kernel
theorem dX8_moveBolt_37 : decode cX8_moveBolt 37 = .ok (.lstore 5, 2) := by decide +kernel
theorem dX8_moveBolt_39 : decode cX8_moveBolt 39 = .ok (.iload 4, 2) := by decide +kernel
theorem dX8_moveBolt_41 : decode cX8_moveBolt 41 = .ok (.i2l, 1) := by decide +kernel
theorem dX8_moveBolt_42 : decode cX8_moveBolt 42 = .ok (.lload 5, 2) := by decide +kernel
theorem dX8_moveBolt_44 : decode cX8_moveBolt 44 = .ok (.aload_n 0, 1) := by decide +kernel
theorem dX8_moveBolt_45 : decode cX8_moveBolt 45 = .ok (.getfield 10, 3) := by decide +kernel
theorem dX8_moveBolt_48 : decode cX8_moveBolt 48 = .ok (.getfield 89, 3) := by decide +kernel
theorem dX8_moveBolt_51 : decode cX8_moveBolt 51 = .ok (.iload_n 3, 1) := by decide +kernel
theorem dX8_moveBolt_52 : decode cX8_moveBolt 52 = .ok (.iload_n 2, 1) := by decide +kernel
theorem dX8_moveBolt_53 : decode cX8_moveBolt 53 = .ok (.invokevirtual 236, 3) := by decide +kernel
theorem dX8_moveBolt_56 : decode cX8_moveBolt 56 = .ok (.aload_n 0, 1) := by decide +kernel
theorem dX8_moveBolt_57 : decode cX8_moveBolt 57 = .ok (.getfield 10, 3) := by decide +kernel
theorem dX8_moveBolt_60 : decode cX8_moveBolt 60 = .ok (.getfield 89, 3) := by decide +kernel
theorem dX8_moveBolt_63 : decode cX8_moveBolt 63 = .ok (.iload_n 2, 1) := by decide +kernel
theorem dX8_moveBolt_64 : decode cX8_moveBolt 64 = .ok (.iload_n 3, 1) := by decide +kernel
theorem dX8_moveBolt_65 : decode cX8_moveBolt 65 = .ok (.invokevirtual 236, 3) := by decide +kernel
theorem dX8_moveBolt_68 : decode cX8_moveBolt 68 = .ok (.invokestatic 405, 3) := by decide +kernel
theorem dX8_moveBolt_71 : decode cX8_moveBolt 71 = .ok (.lstore 7, 2) := by decide +kernel
theorem dX8_moveBolt_73 : decode cX8_moveBolt 73 = .ok (.aload_n 0, 1) := by decide +kernel
theorem dX8_moveBolt_74 : decode cX8_moveBolt 74 = .ok (.getfield 10, 3) := by decide +kernel
theorem dX8_moveBolt_77 : decode cX8_moveBolt 77 = .ok (.getfield 139, 3) := by decide +kernel
theorem dX8_moveBolt_80 : decode cX8_moveBolt 80 = .ok (.iload_n 1, 1) := by decide +kernel
theorem dX8_moveBolt_81 : decode cX8_moveBolt 81 = .ok (.iload_n 2, 1) := by decide +kernel
theorem dX8_moveBolt_82 : decode cX8_moveBolt 82 = .ok (.lload 5, 2) := by decide +kernel
theorem dX8_moveBolt_84 : decode cX8_moveBolt 84 = .ok (.l2i, 1) := by decide +kernel
theorem dX8_moveBolt_85 : decode cX8_moveBolt 85 = .ok (.lload 7, 2) := by decide +kernel
theorem dX8_moveBolt_87 : decode cX8_moveBolt 87 = .ok (.l2i, 1) := by decide +kernel
theorem dX8_moveBolt_88 : decode cX8_moveBolt 88 = .ok (.invokevirtual 409, 3) := by decide +kernel
theorem dX8_moveBolt_91 : decode cX8_moveBolt 91 = .ok (.return_, 1) := by decide +kernel
theorem dX8_bound_0 : decode cX8_bound 0 = .ok (.aload_n 0, 1) := by decide +kernel
theorem dX8_bound_1 : decode cX8_bound 1 = .ok (.getfield 10, 3) := by decide +kernel
theorem dX8_bound_4 : decode cX8_bound 4 = .ok (.getfield 136, 3) := by decide +kernel
theorem dX8_bound_7 : decode cX8_bound 7 = .ok (.iconst 0, 1) := by decide +kernel
theorem dX8_bound_8 : decode cX8_bound 8 = .ok (.invokestatic 77, 3) := by decide +kernel
theorem dX8_bound_11 : decode cX8_bound 11 = .ok (.ireturn, 1) := by decide +kernel
theorem dX8_rounding_0 : decode cX8_rounding 0 = .ok (.aload_n 0, 1) := by decide +kernel
theorem dX8_rounding_1 : decode cX8_rounding 1 = .ok (.getfield 10, 3) := by decide +kernel
theorem dX8_rounding_4 : decode cX8_rounding 4 = .ok (.getfield 136, 3) := by decide +kernel
theorem dX8_rounding_7 : decode cX8_rounding 7 = .ok (.iconst 1, 1) := by decide +kernel
theorem dX8_rounding_8 : decode cX8_rounding 8 = .ok (.invokestatic 77, 3) := by decide +kernel
theorem dX8_rounding_11 : decode cX8_rounding 11 = .ok (.ireturn, 1) := by decide +kernel
theorem dX8_leastOfSetting_0 : decode cX8_leastOfSetting 0 = .ok (.iload_n 0, 1) := by decide +kernel
theorem dX8_leastOfSetting_1 : decode cX8_leastOfSetting 1 = .ok (.iconst 2, 1) := by decide +kernel
theorem dX8_leastOfSetting_2 : decode cX8_leastOfSetting 2 = .ok (.if_icmp .ne 7, 3) := by decide +kernel
theorem dX8_leastOfSetting_5 : decode cX8_leastOfSetting 5 = .ok (.iconst 1, 1) := by decide +kernel
theorem dX8_leastOfSetting_6 : decode cX8_leastOfSetting 6 = .ok (.goto 4, 3) := by decide +kernel
theorem dX8_leastOfSetting_9 : decode cX8_leastOfSetting 9 = .ok (.iconst 0, 1) := by decide +kernel
theorem dX8_leastOfSetting_10 : decode cX8_leastOfSetting 10 = .ok (.ireturn, 1) := by decide +kernel
theorem dX8_mostOfSetting_0 : decode cX8_mostOfSetting 0 = .ok (.iload_n 0, 1) := by decide +kernel
theorem dX8_mostOfSetting_1 : decode cX8_mostOfSetting 1 = .ok (.ifCond .ne 7, 3) := by decide +kernel
theorem dX8_mostOfSetting_4 : decode cX8_mostOfSetting 4 = .ok (.sipush 500, 3) := by decide +kernel
theorem dX8_mostOfSetting_7 : decode cX8_mostOfSetting 7 = .ok (.ireturn, 1) := by decide +kernel
theorem dX8_mostOfSetting_8 : decode cX8_mostOfSetting 8 = .ok (.iload_n 0, 1) := by decide +kernel
theorem dX8_mostOfSetting_9 : decode cX8_mostOfSetting 9 = .ok (.iconst 1, 1) := by decide +kernel
theorem dX8_mostOfSetting_10 : decode cX8_mostOfSetting 10 = .ok (.if_icmp .ne 7, 3) := by decide +kernel
theorem dX8_mostOfSetting_13 : decode cX8_mostOfSetting 13 = .ok (.iconst 1, 1) := by decide +kernel
theorem dX8_mostOfSetting_14 : decode cX8_mostOfSetting 14 = .ok (.goto 4, 3) := by decide +kernel
theorem dX8_mostOfSetting_17 : decode cX8_mostOfSetting 17 = .ok (.iconst 4, 1) := by decide +kernel
theorem dX8_mostOfSetting_18 : decode cX8_mostOfSetting 18 = .ok (.ireturn, 1) := by decide +kernel
theorem dX8_checkParish_0 : decode cX8_checkParish 0 = .ok (.iload_n 0, 1) := by decide +kernel
theorem dX8_checkParish_1 : decode cX8_checkParish 1 = .ok (.invokestatic 412, 3) := by decide +kernel
theorem dX8_checkParish_4 : decode cX8_checkParish 4 = .ok (.ifCond .ne 14, 3) := by decide +kernel
theorem dX8_checkParish_7 : decode cX8_checkParish 7 = .ok (.new 124, 3) := by decide +kernel
theorem dX8_checkParish_10 : decode cX8_checkParish 10 = .ok (.dup, 1) := by decide +kernel
theorem dX8_checkParish_11 : decode cX8_checkParish 11 = .ok (.ldc_w 415, 3) := by decide +kernel
theorem dX8_checkParish_14 : decode cX8_checkParish 14 = .ok (.invokespecial 128, 3) := by decide +kernel
theorem dX8_checkParish_17 : decode cX8_checkParish 17 = .ok (.athrow, 1) := by decide +kernel
theorem dX8_checkParish_18 : decode cX8_checkParish 18 = .ok (.return_, 1) := by decide +kernel
theorem dX8_checkPair_0 : decode cX8_checkPair 0 = .ok (.iload_n 0, 1) := by decide +kernel
theorem dX8_checkPair_1 : decode cX8_checkPair 1 = .ok (.invokestatic 412, 3) := by decide +kernel
theorem dX8_checkPair_4 : decode cX8_checkPair 4 = .ok (.ifCond .eq 10, 3) := by decide +kernel
theorem dX8_checkPair_7 : decode cX8_checkPair 7 = .ok (.iload_n 1, 1) := by decide +kernel
theorem dX8_checkPair_8 : decode cX8_checkPair 8 = .ok (.invokestatic 412, 3) := by decide +kernel
theorem dX8_checkPair_11 : decode cX8_checkPair 11 = .ok (.ifCond .ne 14, 3) := by decide +kernel
theorem dX8_checkPair_14 : decode cX8_checkPair 14 = .ok (.new 124, 3) := by decide +kernel
theorem dX8_checkPair_17 : decode cX8_checkPair 17 = .ok (.dup, 1) := by decide +kernel
theorem dX8_checkPair_18 : decode cX8_checkPair 18 = .ok (.ldc_w 415, 3) := by decide +kernel
theorem dX8_checkPair_21 : decode cX8_checkPair 21 = .ok (.invokespecial 128, 3) := by decide +kernel
theorem dX8_checkPair_24 : decode cX8_checkPair 24 = .ok (.athrow, 1) := by decide +kernel
theorem dX8_checkPair_25 : decode cX8_checkPair 25 = .ok (.iload_n 0, 1) := by decide +kernel
theorem dX8_checkPair_26 : decode cX8_checkPair 26 = .ok (.iload_n 1, 1) := by decide +kernel
theorem dX8_checkPair_27 : decode cX8_checkPair 27 = .ok (.if_icmp .ne 14, 3) := by decide +kernel
theorem dX8_checkPair_30 : decode cX8_checkPair 30 = .ok (.new 193, 3) := by decide +kernel
theorem dX8_checkPair_33 : decode cX8_checkPair 33 = .ok (.dup, 1) := by decide +kernel
theorem dX8_checkPair_34 : decode cX8_checkPair 34 = .ok (.ldc_w 417, 3) := by decide +kernel
theorem dX8_checkPair_37 : decode cX8_checkPair 37 = .ok (.invokespecial 197, 3) := by decide +kernel
theorem dX8_checkPair_40 : decode cX8_checkPair 40 = .ok (.athrow, 1) := by decide +kernel
theorem dX8_checkPair_41 : decode cX8_checkPair 41 = .ok (.return_, 1) := by decide +kernel
theorem dX8_checkBolt_0 : decode cX8_checkBolt 0 = .ok (.aload_n 0, 1) := by decide +kernel
theorem dX8_checkBolt_1 : decode cX8_checkBolt 1 = .ok (.getfield 10, 3) := by decide +kernel
theorem dX8_checkBolt_4 : decode cX8_checkBolt 4 = .ok (.getfield 139, 3) := by decide +kernel
theorem dX8_checkBolt_7 : decode cX8_checkBolt 7 = .ok (.iload_n 1, 1) := by decide +kernel
theorem dX8_checkBolt_8 : decode cX8_checkBolt 8 = .ok (.invokevirtual 396, 3) := by decide +kernel
theorem dX8_checkBolt_11 : decode cX8_checkBolt 11 = .ok (.ifCond .ne 14, 3) := by decide +kernel
theorem dX8_checkBolt_14 : decode cX8_checkBolt 14 = .ok (.new 124, 3) := by decide +kernel
theorem dX8_checkBolt_17 : decode cX8_checkBolt 17 = .ok (.dup, 1) := by decide +kernel
theorem dX8_checkBolt_18 : decode cX8_checkBolt 18 = .ok (.ldc_w 419, 3) := by decide +kernel
theorem dX8_checkBolt_21 : decode cX8_checkBolt 21 = .ok (.invokespecial 128, 3) := by decide +kernel
theorem dX8_checkBolt_24 : decode cX8_checkBolt 24 = .ok (.athrow, 1) := by decide +kernel
theorem dX8_checkBolt_25 : decode cX8_checkBolt 25 = .ok (.return_, 1) := by decide +kernel
theorem dX8_checkRange_0 : decode cX8_checkRange 0 = .ok (.iload_n 0, 1) := by decide +kernel
theorem dX8_checkRange_1 : decode cX8_checkRange 1 = .ok (.iload_n 1, 1) := by decide +kernel
theorem dX8_checkRange_2 : decode cX8_checkRange 2 = .ok (.if_icmp .lt 8, 3) := by decide +kernel
theorem dX8_checkRange_5 : decode cX8_checkRange 5 = .ok (.iload_n 0, 1) := by decide +kernel
theorem dX8_checkRange_6 : decode cX8_checkRange 6 = .ok (.iload_n 2, 1) := by decide +kernel
theorem dX8_checkRange_7 : decode cX8_checkRange 7 = .ok (.if_icmp .le 14, 3) := by decide +kernel
theorem dX8_checkRange_10 : decode cX8_checkRange 10 = .ok (.new 193, 3) := by decide +kernel
theorem dX8_checkRange_13 : decode cX8_checkRange 13 = .ok (.dup, 1) := by decide +kernel
theorem dX8_checkRange_14 : decode cX8_checkRange 14 = .ok (.ldc_w 421, 3) := by decide +kernel
theorem dX8_checkRange_17 : decode cX8_checkRange 17 = .ok (.invokespecial 197, 3) := by decide +kernel
theorem dX8_checkRange_20 : decode cX8_checkRange 20 = .ok (.athrow, 1) := by decide +kernel
theorem dX8_checkRange_21 : decode cX8_checkRange 21 = .ok (.return_, 1) := by decide +kernel
theorem dX8_isParish_0 : decode cX8_isParish 0 = .ok (.iload_n 0, 1) := by decide +kernel
theorem dX8_isParish_1 : decode cX8_isParish 1 = .ok (.ifCond .lt 12, 3) := by decide +kernel
theorem dX8_isParish_4 : decode cX8_isParish 4 = .ok (.iload_n 0, 1) := by decide +kernel
theorem dX8_isParish_5 : decode cX8_isParish 5 = .ok (.iconst 5, 1) := by decide +kernel
theorem dX8_isParish_6 : decode cX8_isParish 6 = .ok (.if_icmp .ge 7, 3) := by decide +kernel
theorem dX8_isParish_9 : decode cX8_isParish 9 = .ok (.iconst 1, 1) := by decide +kernel
theorem dX8_isParish_10 : decode cX8_isParish 10 = .ok (.goto 4, 3) := by decide +kernel
theorem dX8_isParish_13 : decode cX8_isParish 13 = .ok (.iconst 0, 1) := by decide +kernel
theorem dX8_isParish_14 : decode cX8_isParish 14 = .ok (.ireturn, 1) := by decide +kernel
theorem dX8_at_0 : decode cX8_at 0 = .ok (.aload_n 0, 1) := by decide +kernel
theorem dX8_at_1 : decode cX8_at 1 = .ok (.ifnull 19, 3) := by decide +kernel
theorem dX8_at_4 : decode cX8_at 4 = .ok (.iload_n 1, 1) := by decide +kernel
theorem dX8_at_5 : decode cX8_at 5 = .ok (.ifCond .lt 15, 3) := by decide +kernel
theorem dX8_at_8 : decode cX8_at 8 = .ok (.iload_n 1, 1) := by decide +kernel
theorem dX8_at_9 : decode cX8_at 9 = .ok (.aload_n 0, 1) := by decide +kernel
theorem dX8_at_10 : decode cX8_at 10 = .ok (.arraylength, 1) := by decide +kernel
theorem dX8_at_11 : decode cX8_at 11 = .ok (.if_icmp .ge 9, 3) := by decide +kernel
theorem dX8_at_14 : decode cX8_at 14 = .ok (.aload_n 0, 1) := by decide +kernel
theorem dX8_at_15 : decode cX8_at 15 = .ok (.iload_n 1, 1) := by decide +kernel
theorem dX8_at_16 : decode cX8_at 16 = .ok (.iaload, 1) := by decide +kernel
theorem dX8_at_17 : decode cX8_at 17 = .ok (.goto 4, 3) := by decide +kernel
theorem dX8_at_20 : decode cX8_at 20 = .ok (.iconst 0, 1) := by decide +kernel
theorem dX8_at_21 : decode cX8_at 21 = .ok (.ireturn, 1) := by decide +kernel
theorem dX8_put_0 : decode cX8_put 0 = .ok (.aload_n 0, 1) := by decide +kernel
theorem dX8_put_1 : decode cX8_put 1 = .ok (.ifnull 17, 3) := by decide +kernel
theorem dX8_put_4 : decode cX8_put 4 = .ok (.iload_n 1, 1) := by decide +kernel
theorem dX8_put_5 : decode cX8_put 5 = .ok (.ifCond .lt 13, 3) := by decide +kernel
theorem dX8_put_8 : decode cX8_put 8 = .ok (.iload_n 1, 1) := by decide +kernel
theorem dX8_put_9 : decode cX8_put 9 = .ok (.aload_n 0, 1) := by decide +kernel
theorem dX8_put_10 : decode cX8_put 10 = .ok (.arraylength, 1) := by decide +kernel
theorem dX8_put_11 : decode cX8_put 11 = .ok (.if_icmp .ge 7, 3) := by decide +kernel
theorem dX8_put_14 : decode cX8_put 14 = .ok (.aload_n 0, 1) := by decide +kernel
theorem dX8_put_15 : decode cX8_put 15 = .ok (.iload_n 1, 1) := by decide +kernel
theorem dX8_put_16 : decode cX8_put 16 = .ok (.iload_n 2, 1) := by decide +kernel
theorem dX8_put_17 : decode cX8_put 17 = .ok (.iastore, 1) := by decide +kernel
theorem dX8_put_18 : decode cX8_put 18 = .ok (.return_, 1) := by decide +kernel
theorem dX8_longAt_0 : decode cX8_longAt 0 = .ok (.aload_n 0, 1) := by decide +kernel
theorem dX8_longAt_1 : decode cX8_longAt 1 = .ok (.ifnull 19, 3) := by decide +kernel
theorem dX8_longAt_4 : decode cX8_longAt 4 = .ok (.iload_n 1, 1) := by decide +kernel
theorem dX8_longAt_5 : decode cX8_longAt 5 = .ok (.ifCond .lt 15, 3) := by decide +kernel
theorem dX8_longAt_8 : decode cX8_longAt 8 = .ok (.iload_n 1, 1) := by decide +kernel
theorem dX8_longAt_9 : decode cX8_longAt 9 = .ok (.aload_n 0, 1) := by decide +kernel
theorem dX8_longAt_10 : decode cX8_longAt 10 = .ok (.arraylength, 1) := by decide +kernel
theorem dX8_longAt_11 : decode cX8_longAt 11 = .ok (.if_icmp .ge 9, 3) := by decide +kernel
theorem dX8_longAt_14 : decode cX8_longAt 14 = .ok (.aload_n 0, 1) := by decide +kernel
theorem dX8_longAt_15 : decode cX8_longAt 15 = .ok (.iload_n 1, 1) := by decide +kernel
theorem dX8_longAt_16 : decode cX8_longAt 16 = .ok (.laload, 1) := by decide +kernel
theorem dX8_longAt_17 : decode cX8_longAt 17 = .ok (.goto 4, 3) := by decide +kernel
theorem dX8_longAt_20 : decode cX8_longAt 20 = .ok (.lconst 0, 1) := by decide +kernel
theorem dX8_longAt_21 : decode cX8_longAt 21 = .ok (.lreturn, 1) := by decide +kernel
theorem dX8_putLong_0 : decode cX8_putLong 0 = .ok (.aload_n 0, 1) := by decide +kernel
theorem dX8_putLong_1 : decode cX8_putLong 1 = .ok (.ifnull 17, 3) := by decide +kernel
theorem dX8_putLong_4 : decode cX8_putLong 4 = .ok (.iload_n 1, 1) := by decide +kernel
theorem dX8_putLong_5 : decode cX8_putLong 5 = .ok (.ifCond .lt 13, 3) := by decide +kernel
theorem dX8_putLong_8 : decode cX8_putLong 8 = .ok (.iload_n 1, 1) := by decide +kernel
theorem dX8_putLong_9 : decode cX8_putLong 9 = .ok (.aload_n 0, 1) := by decide +kernel
theorem dX8_putLong_10 : decode cX8_putLong 10 = .ok (.arraylength, 1) := by decide +kernel
theorem dX8_putLong_11 : decode cX8_putLong 11 = .ok (.if_icmp .ge 7, 3) := by decide +kernel
theorem dX8_putLong_14 : decode cX8_putLong 14 = .ok (.aload_n 0, 1) := by decide +kernel
theorem dX8_putLong_15 : decode cX8_putLong 15 = .ok (.iload_n 1, 1) := by decide +kernel
theorem dX8_putLong_16 : decode cX8_putLong 16 = .ok (.lload_n 2, 1) := by decide +kernel
theorem dX8_putLong_17 : decode cX8_putLong 17 = .ok (.lastore, 1) := by decide +kernel
theorem dX8_putLong_18 : decode cX8_putLong 18 = .ok (.return_, 1) := by decide +kernel
theorem dX8_copyRow_0 : decode cX8_copyRow 0 = .ok (.aload_n 0, 1) := by decide +kernel
theorem dX8_copyRow_1 : decode cX8_copyRow 1 = .ok (.ifnull 7, 3) := by decide +kernel
theorem dX8_copyRow_4 : decode cX8_copyRow 4 = .ok (.aload_n 1, 1) := by decide +kernel
theorem dX8_copyRow_5 : decode cX8_copyRow 5 = .ok (.ifnonnull 4, 3) := by decide +kernel
theorem dX8_copyRow_8 : decode cX8_copyRow 8 = .ok (.return_, 1) := by decide +kernel
theorem dX8_copyRow_9 : decode cX8_copyRow 9 = .ok (.iconst 0, 1) := by decide +kernel
theorem dX8_copyRow_10 : decode cX8_copyRow 10 = .ok (.istore_n 2, 1) := by decide +kernel
theorem dX8_copyRow_11 : decode cX8_copyRow 11 = .ok (.iload_n 2, 1) := by decide +kernel
theorem dX8_copyRow_12 : decode cX8_copyRow 12 = .ok (.aload_n 0, 1) := by decide +kernel
theorem dX8_copyRow_13 : decode cX8_copyRow 13 = .ok (.arraylength, 1) := by decide +kernel
theorem dX8_copyRow_14 : decode cX8_copyRow 14 = .ok (.if_icmp .ge 21, 3) := by decide +kernel
theorem dX8_copyRow_17 : decode cX8_copyRow 17 = .ok (.iload_n 2, 1) := by decide +kernel
theorem dX8_copyRow_18 : decode cX8_copyRow 18 = .ok (.aload_n 1, 1) := by decide +kernel
theorem dX8_copyRow_19 : decode cX8_copyRow 19 = .ok (.arraylength, 1) := by decide +kernel
theorem dX8_copyRow_20 : decode cX8_copyRow 20 = .ok (.if_icmp .ge 15, 3) := by decide +kernel
theorem dX8_copyRow_23 : decode cX8_copyRow 23 = .ok (.aload_n 1, 1) := by decide +kernel
theorem dX8_copyRow_24 : decode cX8_copyRow 24 = .ok (.iload_n 2, 1) := by decide +kernel
theorem dX8_copyRow_25 : decode cX8_copyRow 25 = .ok (.aload_n 0, 1) := by decide +kernel
theorem dX8_copyRow_26 : decode cX8_copyRow 26 = .ok (.iload_n 2, 1) := by decide +kernel
theorem dX8_copyRow_27 : decode cX8_copyRow 27 = .ok (.iaload, 1) := by decide +kernel
theorem dX8_copyRow_28 : decode cX8_copyRow 28 = .ok (.iastore, 1) := by decide +kernel
theorem dX8_copyRow_29 : decode cX8_copyRow 29 = .ok (.iinc 2 1, 3) := by decide +kernel
theorem dX8_copyRow_32 : decode cX8_copyRow 32 = .ok (.goto (-21), 3) := by decide +kernel
theorem dX8_copyRow_35 : decode cX8_copyRow 35 = .ok (.return_, 1) := by decide +kernel
theorem dX8_turn_0 : decode cX8_turn 0 = .ok (.iload_n 3, 1) := by decide +kernel
theorem dX8_turn_1 : decode cX8_turn 1 = .ok (.ifCond .gt 5, 3) := by decide +kernel
theorem dX8_turn_4 : decode cX8_turn 4 = .ok (.lconst 0, 1) := by decide +kernel
theorem dX8_turn_5 : decode cX8_turn 5 = .ok (.lreturn, 1) := by decide +kernel
theorem dX8_turn_6 : decode cX8_turn 6 = .ok (.iload 4, 2) := by decide +kernel
theorem dX8_turn_8 : decode cX8_turn 8 = .ok (.iconst 1, 1) := by decide +kernel
theorem dX8_turn_9 : decode cX8_turn 9 = .ok (.if_icmp .ne 11, 3) := by decide +kernel
theorem dX8_turn_12 : decode cX8_turn 12 = .ok (.lload_n 0, 1) := by decide +kernel
theorem dX8_turn_13 : decode cX8_turn 13 = .ok (.iload_n 2, 1) := by decide +kernel
theorem dX8_turn_14 : decode cX8_turn 14 = .ok (.i2l, 1) := by decide +kernel
theorem dX8_turn_15 : decode cX8_turn 15 = .ok (.lmul, 1) := by decide +kernel
theorem dX8_turn_16 : decode cX8_turn 16 = .ok (.iload_n 3, 1) := by decide +kernel
theorem dX8_turn_17 : decode cX8_turn 17 = .ok (.i2l, 1) := by decide +kernel
theorem dX8_turn_18 : decode cX8_turn 18 = .ok (.ldiv, 1) := by decide +kernel
theorem dX8_turn_19 : decode cX8_turn 19 = .ok (.lreturn, 1) := by decide +kernel
theorem dX8_turn_20 : decode cX8_turn 20 = .ok (.ldc2_w 423, 3) := by decide +kernel
theorem dX8_turn_23 : decode cX8_turn 23 = .ok (.lload_n 0, 1) := by decide +kernel
theorem dX8_turn_24 : decode cX8_turn 24 = .ok (.lmul, 1) := by decide +kernel
theorem dX8_turn_25 : decode cX8_turn 25 = .ok (.iload_n 2, 1) := by decide +kernel
theorem dX8_turn_26 : decode cX8_turn 26 = .ok (.i2l, 1) := by decide +kernel
theorem dX8_turn_27 : decode cX8_turn 27 = .ok (.lmul, 1) := by decide +kernel
theorem dX8_turn_28 : decode cX8_turn 28 = .ok (.iload_n 3, 1) := by decide +kernel
theorem dX8_turn_29 : decode cX8_turn 29 = .ok (.i2l, 1) := by decide +kernel
theorem dX8_turn_30 : decode cX8_turn 30 = .ok (.ladd, 1) := by decide +kernel
theorem dX8_turn_31 : decode cX8_turn 31 = .ok (.ldc2_w 423, 3) := by decide +kernel
theorem dX8_turn_34 : decode cX8_turn 34 = .ok (.iload_n 3, 1) := by decide +kernel
theorem dX8_turn_35 : decode cX8_turn 35 = .ok (.i2l, 1) := by decide +kernel
theorem dX8_turn_36 : decode cX8_turn 36 = .ok (.lmul, 1) := by decide +kernel
theorem dX8_turn_37 : decode cX8_turn 37 = .ok (.ldiv, 1) := by decide +kernel
theorem dX8_turn_38 : decode cX8_turn 38 = .ok (.lreturn, 1) := by decide +kernel
theorem dX8_gainOfTurn_0 : decode cX8_gainOfTurn 0 = .ok (.iload 5, 2) := by decide +kernel
theorem dX8_gainOfTurn_2 : decode cX8_gainOfTurn 2 = .ok (.ifCond .le 27, 3) := by decide +kernel
theorem dX8_gainOfTurn_5 : decode cX8_gainOfTurn 5 = .ok (.lload_n 2, 1) := by decide +kernel
theorem dX8_gainOfTurn_6 : decode cX8_gainOfTurn 6 = .ok (.iload 5, 2) := by decide +kernel
theorem dX8_gainOfTurn_8 : decode cX8_gainOfTurn 8 = .ok (.i2l, 1) := by decide +kernel
theorem dX8_gainOfTurn_9 : decode cX8_gainOfTurn 9 = .ok (.lmul, 1) := by decide +kernel
theorem dX8_gainOfTurn_10 : decode cX8_gainOfTurn 10 = .ok (.lload_n 0, 1) := by decide +kernel
theorem dX8_gainOfTurn_11 : decode cX8_gainOfTurn 11 = .ok (.iload 4, 2) := by decide +kernel
theorem dX8_gainOfTurn_13 : decode cX8_gainOfTurn 13 = .ok (.i2l, 1) := by decide +kernel
theorem dX8_gainOfTurn_14 : decode cX8_gainOfTurn 14 = .ok (.lmul, 1) := by decide +kernel
theorem dX8_gainOfTurn_15 : decode cX8_gainOfTurn 15 = .ok (.lsub, 1) := by decide +kernel
theorem dX8_gainOfTurn_16 : decode cX8_gainOfTurn 16 = .ok (.ldc2_w 425, 3) := by decide +kernel
theorem dX8_gainOfTurn_19 : decode cX8_gainOfTurn 19 = .ok (.lmul, 1) := by decide +kernel
theorem dX8_gainOfTurn_20 : decode cX8_gainOfTurn 20 = .ok (.iload 5, 2) := by decide +kernel
theorem dX8_gainOfTurn_22 : decode cX8_gainOfTurn 22 = .ok (.i2l, 1) := by decide +kernel
theorem dX8_gainOfTurn_23 : decode cX8_gainOfTurn 23 = .ok (.invokestatic 427, 3) := by decide +kernel
theorem dX8_gainOfTurn_26 : decode cX8_gainOfTurn 26 = .ok (.goto 4, 3) := by decide +kernel
theorem dX8_gainOfTurn_29 : decode cX8_gainOfTurn 29 = .ok (.lconst 0, 1) := by decide +kernel
theorem dX8_gainOfTurn_30 : decode cX8_gainOfTurn 30 = .ok (.lreturn, 1) := by decide +kernel
theorem dX8_lowestTerm_0 : decode cX8_lowestTerm 0 = .ok (.lload_n 0, 1) := by decide +kernel
theorem dX8_lowestTerm_1 : decode cX8_lowestTerm 1 = .ok (.lload_n 2, 1) := by decide +kernel
theorem dX8_lowestTerm_2 : decode cX8_lowestTerm 2 = .ok (.invokestatic 430, 3) := by decide +kernel
theorem dX8_lowestTerm_5 : decode cX8_lowestTerm 5 = .ok (.lstore 5, 2) := by decide +kernel
theorem dX8_lowestTerm_7 : decode cX8_lowestTerm 7 = .ok (.lload 5, 2) := by decide +kernel
theorem dX8_lowestTerm_9 : decode cX8_lowestTerm 9 = .ok (.lconst 0, 1) := by decide +kernel
theorem dX8_lowestTerm_10 : decode cX8_lowestTerm 10 = .ok (.lcmp, 1) := by decide +kernel
theorem dX8_lowestTerm_11 : decode cX8_lowestTerm 11 = .ok (.ifCond .gt 5, 3) := by decide +kernel
theorem dX8_lowestTerm_14 : decode cX8_lowestTerm 14 = .ok (.iconst (-1), 1) := by decide +kernel
theorem dX8_lowestTerm_15 : decode cX8_lowestTerm 15 = .ok (.ireturn, 1) := by decide +kernel
theorem dX8_lowestTerm_16 : decode cX8_lowestTerm 16 = .ok (.lload_n 0, 1) := by decide +kernel
theorem dX8_lowestTerm_17 : decode cX8_lowestTerm 17 = .ok (.lload 5, 2) := by decide +kernel
theorem dX8_lowestTerm_19 : decode cX8_lowestTerm 19 = .ok (.ldiv, 1) := by decide +kernel
theorem dX8_lowestTerm_20 : decode cX8_lowestTerm 20 = .ok (.lstore 7, 2) := by decide +kernel
theorem dX8_lowestTerm_22 : decode cX8_lowestTerm 22 = .ok (.lload_n 2, 1) := by decide +kernel
theorem dX8_lowestTerm_23 : decode cX8_lowestTerm 23 = .ok (.lload 5, 2) := by decide +kernel
theorem dX8_lowestTerm_25 : decode cX8_lowestTerm 25 = .ok (.ldiv, 1) := by decide +kernel
theorem dX8_lowestTerm_26 : decode cX8_lowestTerm 26 = .ok (.lstore 9, 2) := by decide +kernel
theorem dX8_lowestTerm_28 : decode cX8_lowestTerm 28 = .ok (.lload 7, 2) := by decide +kernel
theorem dX8_lowestTerm_30 : decode cX8_lowestTerm 30 = .ok (.ldc2_w 433, 3) := by decide +kernel
theorem dX8_lowestTerm_33 : decode cX8_lowestTerm 33 = .ok (.lcmp, 1) := by decide +kernel
theorem dX8_lowestTerm_34 : decode cX8_lowestTerm 34 = .ok (.ifCond .gt 12, 3) := by decide +kernel
theorem dX8_lowestTerm_37 : decode cX8_lowestTerm 37 = .ok (.lload 9, 2) := by decide +kernel
theorem dX8_lowestTerm_39 : decode cX8_lowestTerm 39 = .ok (.ldc2_w 433, 3) := by decide +kernel
theorem dX8_lowestTerm_42 : decode cX8_lowestTerm 42 = .ok (.lcmp, 1) := by decide +kernel
theorem dX8_lowestTerm_43 : decode cX8_lowestTerm 43 = .ok (.ifCond .le 5, 3) := by decide +kernel
theorem dX8_lowestTerm_46 : decode cX8_lowestTerm 46 = .ok (.iconst (-1), 1) := by decide +kernel
theorem dX8_lowestTerm_47 : decode cX8_lowestTerm 47 = .ok (.ireturn, 1) := by decide +kernel
theorem dX8_lowestTerm_48 : decode cX8_lowestTerm 48 = .ok (.iload 4, 2) := by decide +kernel
theorem dX8_lowestTerm_50 : decode cX8_lowestTerm 50 = .ok (.ifCond .ne 8, 3) := by decide +kernel
theorem dX8_lowestTerm_53 : decode cX8_lowestTerm 53 = .ok (.lload 7, 2) := by decide +kernel
theorem dX8_lowestTerm_55 : decode cX8_lowestTerm 55 = .ok (.goto 5, 3) := by decide +kernel
theorem dX8_lowestTerm_58 : decode cX8_lowestTerm 58 = .ok (.lload 9, 2) := by decide +kernel
theorem dX8_lowestTerm_60 : decode cX8_lowestTerm 60 = .ok (.l2i, 1) := by decide +kernel
theorem dX8_lowestTerm_61 : decode cX8_lowestTerm 61 = .ok (.ireturn, 1) := by decide +kernel
theorem dX8_commonDivisor_0 : decode cX8_commonDivisor 0 = .ok (.lload_n 0, 1) := by decide +kernel
theorem dX8_commonDivisor_1 : decode cX8_commonDivisor 1 = .ok (.lstore 4, 2) := by decide +kernel
theorem dX8_commonDivisor_3 : decode cX8_commonDivisor 3 = .ok (.lload_n 2, 1) := by decide +kernel
theorem dX8_commonDivisor_4 : decode cX8_commonDivisor 4 = .ok (.lstore 6, 2) := by decide +kernel
theorem dX8_commonDivisor_6 : decode cX8_commonDivisor 6 = .ok (.iconst 0, 1) := by decide +kernel
theorem dX8_commonDivisor_7 : decode cX8_commonDivisor 7 = .ok (.istore 8, 2) := by decide +kernel
theorem dX8_commonDivisor_9 : decode cX8_commonDivisor 9 = .ok (.iload 8, 2) := by decide +kernel
theorem dX8_commonDivisor_11 : decode cX8_commonDivisor 11 = .ok (.sipush 1000, 3) := by decide +kernel
theorem dX8_commonDivisor_14 : decode cX8_commonDivisor 14 = .ok (.if_icmp .ge 31, 3) := by decide +kernel
theorem dX8_commonDivisor_17 : decode cX8_commonDivisor 17 = .ok (.lload 6, 2) := by decide +kernel
theorem dX8_commonDivisor_19 : decode cX8_commonDivisor 19 = .ok (.lconst 0, 1) := by decide +kernel
theorem dX8_commonDivisor_20 : decode cX8_commonDivisor 20 = .ok (.lcmp, 1) := by decide +kernel
theorem dX8_commonDivisor_21 : decode cX8_commonDivisor 21 = .ok (.ifCond .le 24, 3) := by decide +kernel
theorem dX8_commonDivisor_24 : decode cX8_commonDivisor 24 = .ok (.lload 4, 2) := by decide +kernel
theorem dX8_commonDivisor_26 : decode cX8_commonDivisor 26 = .ok (.lload 6, 2) := by decide +kernel
theorem dX8_commonDivisor_28 : decode cX8_commonDivisor 28 = .ok (.lrem, 1) := by decide +kernel
theorem dX8_commonDivisor_29 : decode cX8_commonDivisor 29 = .ok (.lstore 9, 2) := by decide +kernel
theorem dX8_commonDivisor_31 : decode cX8_commonDivisor 31 = .ok (.lload 6, 2) := by decide +kernel
theorem dX8_commonDivisor_33 : decode cX8_commonDivisor 33 = .ok (.lstore 4, 2) := by decide +kernel
theorem dX8_commonDivisor_35 : decode cX8_commonDivisor 35 = .ok (.lload 9, 2) := by decide +kernel
theorem dX8_commonDivisor_37 : decode cX8_commonDivisor 37 = .ok (.lstore 6, 2) := by decide +kernel
theorem dX8_commonDivisor_39 : decode cX8_commonDivisor 39 = .ok (.iinc 8 1, 3) := by decide +kernel
theorem dX8_commonDivisor_42 : decode cX8_commonDivisor 42 = .ok (.goto (-33), 3) := by decide +kernel
theorem dX8_commonDivisor_45 : decode cX8_commonDivisor 45 = .ok (.lload 4, 2) := by decide +kernel
theorem dX8_commonDivisor_47 : decode cX8_commonDivisor 47 = .ok (.lreturn, 1) := by decide +kernel
theorem dX8_bitOf_0 : decode cX8_bitOf 0 = .ok (.iconst 1, 1) := by decide +kernel
theorem dX8_bitOf_1 : decode cX8_bitOf 1 = .ok (.iload_n 0, 1) := by decide +kernel
theorem dX8_bitOf_2 : decode cX8_bitOf 2 = .ok (.iload_n 1, 1) := by decide +kernel
theorem dX8_bitOf_3 : decode cX8_bitOf 3 = .ok (.invokestatic 435, 3) := by decide +kernel
theorem dX8_bitOf_6 : decode cX8_bitOf 6 = .ok (.iconst 5, 1) := by decide +kernel
theorem dX8_bitOf_7 : decode cX8_bitOf 7 = .ok (.imul, 1) := by decide +kernel
theorem dX8_bitOf_8 : decode cX8_bitOf 8 = .ok (.iload_n 0, 1) := by decide +kernel
theorem dX8_bitOf_9 : decode cX8_bitOf 9 = .ok (.iload_n 1, 1) := by decide +kernel
theorem dX8_bitOf_10 : decode cX8_bitOf 10 = .ok (.invokestatic 208, 3) := by decide +kernel
theorem dX8_bitOf_13 : decode cX8_bitOf 13 = .ok (.iadd, 1) := by decide +kernel
theorem dX8_bitOf_14 : decode cX8_bitOf 14 = .ok (.ishl, 1) := by decide +kernel
theorem dX8_bitOf_15 : decode cX8_bitOf 15 = .ok (.ireturn, 1) := by decide +kernel
theorem dX8_ringSize_0 : decode cX8_ringSize 0 = .ok (.iload_n 0, 1) := by decide +kernel
theorem dX8_ringSize_1 : decode cX8_ringSize 1 = .ok (.bipush 10, 2) := by decide +kernel
theorem dX8_ringSize_3 : decode cX8_ringSize 3 = .ok (.if_icmp .ge 5, 3) := by decide +kernel
theorem dX8_ringSize_6 : decode cX8_ringSize 6 = .ok (.iconst 3, 1) := by decide +kernel
theorem dX8_ringSize_7 : decode cX8_ringSize 7 = .ok (.ireturn, 1) := by decide +kernel
theorem dX8_ringSize_8 : decode cX8_ringSize 8 = .ok (.iload_n 0, 1) := by decide +kernel
theorem dX8_ringSize_9 : decode cX8_ringSize 9 = .ok (.bipush 25, 2) := by decide +kernel
theorem dX8_ringSize_11 : decode cX8_ringSize 11 = .ok (.if_icmp .ge 7, 3) := by decide +kernel
theorem dX8_ringSize_14 : decode cX8_ringSize 14 = .ok (.iconst 4, 1) := by decide +kernel
theorem dX8_ringSize_15 : decode cX8_ringSize 15 = .ok (.goto 4, 3) := by decide +kernel
theorem dX8_ringSize_18 : decode cX8_ringSize 18 = .ok (.iconst 5, 1) := by decide +kernel
theorem dX8_ringSize_19 : decode cX8_ringSize 19 = .ok (.ireturn, 1) := by decide +kernel
