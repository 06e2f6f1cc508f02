theorem dL_cell_0 : decode cL_cell 0 = .ok (.iload_n 1, 1) := by decide +kernel
theorem dL_cell_1 : decode cL_cell 1 = .ok (.aload_n 0, 1) := by decide +kernel
theorem dL_cell_2 : decode cL_cell 2 = .ok (.arraylength, 1) := by decide +kernel
theorem dL_cell_3 : decode cL_cell 3 = .ok (.if_icmp .ge 9, 3) := by decide +kernel
theorem dL_cell_6 : decode cL_cell 6 = .ok (.aload_n 0, 1) := by decide +kernel
theorem dL_cell_7 : decode cL_cell 7 = .ok (.iload_n 1, 1) := by decide +kernel
theorem dL_cell_8 : decode cL_cell 8 = .ok (.iaload, 1) := by decide +kernel
theorem dL_cell_9 : decode cL_cell 9 = .ok (.goto 13, 3) := by decide +kernel
theorem dL_cell_12 : decode cL_cell 12 = .ok (.ldc 7, 2) := by decide +kernel
theorem dL_cell_14 : decode cL_cell 14 = .ok (.iload_n 1, 1) := by decide +kernel
theorem dL_cell_15 : decode cL_cell 15 = .ok (.bipush 41, 2) := by decide +kernel
theorem dL_cell_17 : decode cL_cell 17 = .ok (.iadd, 1) := by decide +kernel
theorem dL_cell_18 : decode cL_cell 18 = .ok (.imul, 1) := by decide +kernel
theorem dL_cell_19 : decode cL_cell 19 = .ok (.bipush 73, 2) := by decide +kernel
theorem dL_cell_21 : decode cL_cell 21 = .ok (.iadd, 1) := by decide +kernel
theorem dL_cell_22 : decode cL_cell 22 = .ok (.ldc 8, 2) := by decide +kernel
theorem dL_cell_24 : decode cL_cell 24 = .ok (.iand, 1) := by decide +kernel
theorem dL_cell_25 : decode cL_cell 25 = .ok (.ireturn, 1) := by decide +kernel
theorem dL_stick_0 : decode cL_stick 0 = .ok (.aload_n 0, 1) := by decide +kernel
theorem dL_stick_1 : decode cL_stick 1 = .ok (.iload_n 1, 1) := by decide +kernel
theorem dL_stick_2 : decode cL_stick 2 = .ok (.iload_n 2, 1) := by decide +kernel
theorem dL_stick_3 : decode cL_stick 3 = .ok (.invokevirtual 9, 3) := by decide +kernel
theorem dL_stick_6 : decode cL_stick 6 = .ok (.ireturn, 1) := by decide +kernel
theorem dL_stick_7 : decode cL_stick 7 = .ok (.astore_n 3, 1) := by decide +kernel
theorem dL_stick_8 : decode cL_stick 8 = .ok (.bipush (-3), 2) := by decide +kernel
theorem dL_stick_10 : decode cL_stick 10 = .ok (.ireturn, 1) := by decide +kernel
theorem dL_stick_11 : decode cL_stick 11 = .ok (.astore_n 3, 1) := by decide +kernel
theorem dL_stick_12 : decode cL_stick 12 = .ok (.bipush (-2), 2) := by decide +kernel
theorem dL_stick_14 : decode cL_stick 14 = .ok (.ireturn, 1) := by decide +kernel
theorem dL_table_0 : decode cL_table 0 = .ok (.aload_n 0, 1) := by decide +kernel
theorem dL_table_1 : decode cL_table 1 = .ok (.iload_n 1, 1) := by decide +kernel
theorem dL_table_2 : decode cL_table 2 = .ok (.iload_n 2, 1) := by decide +kernel
theorem dL_table_3 : decode cL_table 3 = .ok (.iload_n 3, 1) := by decide +kernel
theorem dL_table_4 : decode cL_table 4 = .ok (.iload 4, 2) := by decide +kernel
theorem dL_table_6 : decode cL_table 6 = .ok (.invokevirtual 19, 3) := by decide +kernel
theorem dL_table_9 : decode cL_table 9 = .ok (.ireturn, 1) := by decide +kernel
theorem dL_table_10 : decode cL_table 10 = .ok (.astore 5, 2) := by decide +kernel
theorem dL_table_12 : decode cL_table 12 = .ok (.bipush (-3), 2) := by decide +kernel
theorem dL_table_14 : decode cL_table 14 = .ok (.ireturn, 1) := by decide +kernel
theorem dL_table_15 : decode cL_table 15 = .ok (.astore 5, 2) := by decide +kernel
theorem dL_table_17 : decode cL_table 17 = .ok (.bipush (-2), 2) := by decide +kernel
theorem dL_table_19 : decode cL_table 19 = .ok (.ireturn, 1) := by decide +kernel
theorem dL_table_20 : decode cL_table 20 = .ok (.astore 5, 2) := by decide +kernel
theorem dL_table_22 : decode cL_table 22 = .ok (.bipush (-4), 2) := by decide +kernel
theorem dL_table_24 : decode cL_table 24 = .ok (.ireturn, 1) := by decide +kernel
theorem dL_drop_0 : decode cL_drop 0 = .ok (.aload_n 0, 1) := by decide +kernel
theorem dL_drop_1 : decode cL_drop 1 = .ok (.iload_n 1, 1) := by decide +kernel
theorem dL_drop_2 : decode cL_drop 2 = .ok (.iload_n 2, 1) := by decide +kernel
theorem dL_drop_3 : decode cL_drop 3 = .ok (.invokevirtual 25, 3) := by decide +kernel
theorem dL_drop_6 : decode cL_drop 6 = .ok (.ireturn, 1) := by decide +kernel
theorem dL_drop_7 : decode cL_drop 7 = .ok (.astore_n 3, 1) := by decide +kernel
theorem dL_drop_8 : decode cL_drop 8 = .ok (.bipush (-3), 2) := by decide +kernel
theorem dL_drop_10 : decode cL_drop 10 = .ok (.ireturn, 1) := by decide +kernel
theorem dL_drop_11 : decode cL_drop 11 = .ok (.astore_n 3, 1) := by decide +kernel
theorem dL_drop_12 : decode cL_drop 12 = .ok (.bipush (-2), 2) := by decide +kernel
theorem dL_drop_14 : decode cL_drop 14 = .ok (.ireturn, 1) := by decide +kernel
theorem dL_set_0 : decode cL_set 0 = .ok (.aload_n 0, 1) := by decide +kernel
theorem dL_set_1 : decode cL_set 1 = .ok (.iload_n 1, 1) := by decide +kernel
theorem dL_set_2 : decode cL_set 2 = .ok (.iload_n 2, 1) := by decide +kernel
theorem dL_set_3 : decode cL_set 3 = .ok (.invokevirtual 28, 3) := by decide +kernel
theorem dL_set_6 : decode cL_set 6 = .ok (.ireturn, 1) := by decide +kernel
theorem dL_set_7 : decode cL_set 7 = .ok (.astore_n 3, 1) := by decide +kernel
theorem dL_set_8 : decode cL_set 8 = .ok (.bipush (-3), 2) := by decide +kernel
theorem dL_set_10 : decode cL_set 10 = .ok (.ireturn, 1) := by decide +kernel
theorem dL_set_11 : decode cL_set 11 = .ok (.astore_n 3, 1) := by decide +kernel
theorem dL_set_12 : decode cL_set 12 = .ok (.bipush (-2), 2) := by decide +kernel
theorem dL_set_14 : decode cL_set 14 = .ok (.ireturn, 1) := by decide +kernel
theorem dL_bolt_0 : decode cL_bolt 0 = .ok (.aload_n 0, 1) := by decide +kernel
theorem dL_bolt_1 : decode cL_bolt 1 = .ok (.iload_n 1, 1) := by decide +kernel
theorem dL_bolt_2 : decode cL_bolt 2 = .ok (.iload_n 2, 1) := by decide +kernel
theorem dL_bolt_3 : decode cL_bolt 3 = .ok (.invokevirtual 31, 3) := by decide +kernel
theorem dL_bolt_6 : decode cL_bolt 6 = .ok (.ireturn, 1) := by decide +kernel
theorem dL_bolt_7 : decode cL_bolt 7 = .ok (.astore_n 3, 1) := by decide +kernel
theorem dL_bolt_8 : decode cL_bolt 8 = .ok (.bipush (-3), 2) := by decide +kernel
theorem dL_bolt_10 : decode cL_bolt 10 = .ok (.ireturn, 1) := by decide +kernel
theorem dL_bolt_11 : decode cL_bolt 11 = .ok (.astore_n 3, 1) := by decide +kernel
theorem dL_bolt_12 : decode cL_bolt 12 = .ok (.bipush (-2), 2) := by decide +kernel
theorem dL_bolt_14 : decode cL_bolt 14 = .ok (.ireturn, 1) := by decide +kernel
theorem dL_bolt_15 : decode cL_bolt 15 = .ok (.astore_n 3, 1) := by decide +kernel
theorem dL_bolt_16 : decode cL_bolt 16 = .ok (.bipush (-4), 2) := by decide +kernel
theorem dL_bolt_18 : decode cL_bolt 18 = .ok (.ireturn, 1) := by decide +kernel
theorem dL_send_0 : decode cL_send 0 = .ok (.aload_n 0, 1) := by decide +kernel
theorem dL_send_1 : decode cL_send 1 = .ok (.iload_n 1, 1) := by decide +kernel
theorem dL_send_2 : decode cL_send 2 = .ok (.iload_n 2, 1) := by decide +kernel
theorem dL_send_3 : decode cL_send 3 = .ok (.invokevirtual 34, 3) := by decide +kernel
theorem dL_send_6 : decode cL_send 6 = .ok (.ireturn, 1) := by decide +kernel
theorem dL_send_7 : decode cL_send 7 = .ok (.astore_n 3, 1) := by decide +kernel
theorem dL_send_8 : decode cL_send 8 = .ok (.bipush (-3), 2) := by decide +kernel
theorem dL_send_10 : decode cL_send 10 = .ok (.ireturn, 1) := by decide +kernel
theorem dL_send_11 : decode cL_send 11 = .ok (.astore_n 3, 1) := by decide +kernel
theorem dL_send_12 : decode cL_send 12 = .ok (.bipush (-2), 2) := by decide +kernel
theorem dL_send_14 : decode cL_send 14 = .ok (.ireturn, 1) := by decide +kernel
theorem dL_sell_0 : decode cL_sell 0 = .ok (.aload_n 0, 1) := by decide +kernel
theorem dL_sell_1 : decode cL_sell 1 = .ok (.iload_n 1, 1) := by decide +kernel
theorem dL_sell_2 : decode cL_sell 2 = .ok (.invokevirtual 37, 3) := by decide +kernel
theorem dL_sell_5 : decode cL_sell 5 = .ok (.ireturn, 1) := by decide +kernel
theorem dL_sell_6 : decode cL_sell 6 = .ok (.astore_n 2, 1) := by decide +kernel
theorem dL_sell_7 : decode cL_sell 7 = .ok (.bipush (-2), 2) := by decide +kernel
theorem dL_sell_9 : decode cL_sell 9 = .ok (.ireturn, 1) := by decide +kernel
theorem dL_tableOf_0 : decode cL_tableOf 0 = .ok (.aload_n 0, 1) := by decide +kernel
theorem dL_tableOf_1 : decode cL_tableOf 1 = .ok (.iload_n 1, 1) := by decide +kernel
theorem dL_tableOf_2 : decode cL_tableOf 2 = .ok (.iload_n 2, 1) := by decide +kernel
theorem dL_tableOf_3 : decode cL_tableOf 3 = .ok (.iload_n 3, 1) := by decide +kernel
theorem dL_tableOf_4 : decode cL_tableOf 4 = .ok (.invokevirtual 41, 3) := by decide +kernel
theorem dL_tableOf_7 : decode cL_tableOf 7 = .ok (.ireturn, 1) := by decide +kernel
theorem dL_tableOf_8 : decode cL_tableOf 8 = .ok (.astore 4, 2) := by decide +kernel
theorem dL_tableOf_10 : decode cL_tableOf 10 = .ok (.bipush (-3), 2) := by decide +kernel
theorem dL_tableOf_12 : decode cL_tableOf 12 = .ok (.ireturn, 1) := by decide +kernel
theorem dL_tableOf_13 : decode cL_tableOf 13 = .ok (.astore 4, 2) := by decide +kernel
theorem dL_tableOf_15 : decode cL_tableOf 15 = .ok (.bipush (-2), 2) := by decide +kernel
theorem dL_tableOf_17 : decode cL_tableOf 17 = .ok (.ireturn, 1) := by decide +kernel
theorem dL_ring_0 : decode cL_ring 0 = .ok (.aload_n 0, 1) := by decide +kernel
theorem dL_ring_1 : decode cL_ring 1 = .ok (.iload_n 1, 1) := by decide +kernel
theorem dL_ring_2 : decode cL_ring 2 = .ok (.iload_n 2, 1) := by decide +kernel
theorem dL_ring_3 : decode cL_ring 3 = .ok (.invokevirtual 45, 3) := by decide +kernel
theorem dL_ring_6 : decode cL_ring 6 = .ok (.ireturn, 1) := by decide +kernel
theorem dL_ring_7 : decode cL_ring 7 = .ok (.astore_n 3, 1) := by decide +kernel
theorem dL_ring_8 : decode cL_ring 8 = .ok (.bipush (-2), 2) := by decide +kernel
theorem dL_ring_10 : decode cL_ring 10 = .ok (.ireturn, 1) := by decide +kernel
theorem dL_boltOf_0 : decode cL_boltOf 0 = .ok (.aload_n 0, 1) := by decide +kernel
theorem dL_boltOf_1 : decode cL_boltOf 1 = .ok (.iload_n 1, 1) := by decide +kernel
theorem dL_boltOf_2 : decode cL_boltOf 2 = .ok (.iload_n 2, 1) := by decide +kernel
theorem dL_boltOf_3 : decode cL_boltOf 3 = .ok (.invokevirtual 48, 3) := by decide +kernel
theorem dL_boltOf_6 : decode cL_boltOf 6 = .ok (.ireturn, 1) := by decide +kernel
theorem dL_boltOf_7 : decode cL_boltOf 7 = .ok (.astore_n 3, 1) := by decide +kernel
theorem dL_boltOf_8 : decode cL_boltOf 8 = .ok (.bipush (-3), 2) := by decide +kernel
theorem dL_boltOf_10 : decode cL_boltOf 10 = .ok (.ireturn, 1) := by decide +kernel
theorem dL_boltOf_11 : decode cL_boltOf 11 = .ok (.astore_n 3, 1) := by decide +kernel
theorem dL_boltOf_12 : decode cL_boltOf 12 = .ok (.bipush (-2), 2) := by decide +kernel
theorem dL_boltOf_14 : decode cL_boltOf 14 = .ok (.ireturn, 1) := by decide +kernel
theorem dL_count_0 : decode cL_count 0 = .ok (.aload_n 0, 1) := by decide +kernel
theorem dL_count_1 : decode cL_count 1 = .ok (.iload_n 1, 1) := by decide +kernel
theorem dL_count_2 : decode cL_count 2 = .ok (.invokevirtual 51, 3) := by decide +kernel
theorem dL_count_5 : decode cL_count 5 = .ok (.ireturn, 1) := by decide +kernel
theorem dL_count_6 : decode cL_count 6 = .ok (.astore_n 2, 1) := by decide +kernel
theorem dL_count_7 : decode cL_count 7 = .ok (.bipush (-2), 2) := by decide +kernel
theorem dL_count_9 : decode cL_count 9 = .ok (.ireturn, 1) := by decide +kernel
theorem dL_offBy_0 : decode cL_offBy 0 = .ok (.aload_n 0, 1) := by decide +kernel
theorem dL_offBy_1 : decode cL_offBy 1 = .ok (.iload_n 1, 1) := by decide +kernel
theorem dL_offBy_2 : decode cL_offBy 2 = .ok (.iload_n 2, 1) := by decide +kernel
theorem dL_offBy_3 : decode cL_offBy 3 = .ok (.iload_n 3, 1) := by decide +kernel
theorem dL_offBy_4 : decode cL_offBy 4 = .ok (.iload 4, 2) := by decide +kernel
theorem dL_offBy_6 : decode cL_offBy 6 = .ok (.invokevirtual 54, 3) := by decide +kernel
theorem dL_offBy_9 : decode cL_offBy 9 = .ok (.ireturn, 1) := by decide +kernel
theorem dL_offBy_10 : decode cL_offBy 10 = .ok (.astore 5, 2) := by decide +kernel
theorem dL_offBy_12 : decode cL_offBy 12 = .ok (.bipush (-3), 2) := by decide +kernel
theorem dL_offBy_14 : decode cL_offBy 14 = .ok (.ireturn, 1) := by decide +kernel
theorem dL_offBy_15 : decode cL_offBy 15 = .ok (.astore 5, 2) := by decide +kernel
theorem dL_offBy_17 : decode cL_offBy 17 = .ok (.bipush (-2), 2) := by decide +kernel
theorem dL_offBy_19 : decode cL_offBy 19 = .ok (.ireturn, 1) := by decide +kernel
theorem dL_turned_0 : decode cL_turned 0 = .ok (.aload_n 0, 1) := by decide +kernel
theorem dL_turned_1 : decode cL_turned 1 = .ok (.iload_n 1, 1) := by decide +kernel
theorem dL_turned_2 : decode cL_turned 2 = .ok (.iload_n 2, 1) := by decide +kernel
theorem dL_turned_3 : decode cL_turned 3 = .ok (.iload_n 3, 1) := by decide +kernel
theorem dL_turned_4 : decode cL_turned 4 = .ok (.invokevirtual 57, 3) := by decide +kernel
theorem dL_turned_7 : decode cL_turned 7 = .ok (.ireturn, 1) := by decide +kernel
theorem dL_turned_8 : decode cL_turned 8 = .ok (.astore 4, 2) := by decide +kernel
theorem dL_turned_10 : decode cL_turned 10 = .ok (.bipush (-3), 2) := by decide +kernel
theorem dL_turned_12 : decode cL_turned 12 = .ok (.ireturn, 1) := by decide +kernel
theorem dL_turned_13 : decode cL_turned 13 = .ok (.astore 4, 2) := by decide +kernel
theorem dL_turned_15 : decode cL_turned 15 = .ok (.bipush (-2), 2) := by decide +kernel
theorem dL_turned_17 : decode cL_turned 17 = .ok (.ireturn, 1) := by decide +kernel
theorem dL_bestWay_0 : decode cL_bestWay 0 = .ok (.aload_n 0, 1) := by decide +kernel
theorem dL_bestWay_1 : decode cL_bestWay 1 = .ok (.iload_n 1, 1) := by decide +kernel
theorem dL_bestWay_2 : decode cL_bestWay 2 = .ok (.iload_n 2, 1) := by decide +kernel
theorem dL_bestWay_3 : decode cL_bestWay 3 = .ok (.iload_n 3, 1) := by decide +kernel
theorem dL_bestWay_4 : decode cL_bestWay 4 = .ok (.invokevirtual 60, 3) := by decide +kernel
theorem dL_bestWay_7 : decode cL_bestWay 7 = .ok (.ireturn, 1) := by decide +kernel
theorem dL_bestWay_8 : decode cL_bestWay 8 = .ok (.astore 4, 2) := by decide +kernel
theorem dL_bestWay_10 : decode cL_bestWay 10 = .ok (.bipush (-3), 2) := by decide +kernel
theorem dL_bestWay_12 : decode cL_bestWay 12 = .ok (.ireturn, 1) := by decide +kernel
theorem dL_bestWay_13 : decode cL_bestWay 13 = .ok (.astore 4, 2) := by decide +kernel
theorem dL_bestWay_15 : decode cL_bestWay 15 = .ok (.bipush (-2), 2) := by decide +kernel
theorem dL_bestWay_17 : decode cL_bestWay 17 = .ok (.ireturn, 1) := by decide +kernel
theorem dL_mends_0 : decode cL_mends 0 = .ok (.aload_n 0, 1) := by decide +kernel
theorem dL_mends_1 : decode cL_mends 1 = .ok (.iload_n 1, 1) := by decide +kernel
theorem dL_mends_2 : decode cL_mends 2 = .ok (.iload_n 2, 1) := by decide +kernel
theorem dL_mends_3 : decode cL_mends 3 = .ok (.iload_n 3, 1) := by decide +kernel
theorem dL_mends_4 : decode cL_mends 4 = .ok (.invokevirtual 63, 3) := by decide +kernel
theorem dL_mends_7 : decode cL_mends 7 = .ok (.ireturn, 1) := by decide +kernel
theorem dL_mends_8 : decode cL_mends 8 = .ok (.astore 4, 2) := by decide +kernel
theorem dL_mends_10 : decode cL_mends 10 = .ok (.bipush (-3), 2) := by decide +kernel
theorem dL_mends_12 : decode cL_mends 12 = .ok (.ireturn, 1) := by decide +kernel
theorem dL_mends_13 : decode cL_mends 13 = .ok (.astore 4, 2) := by decide +kernel
theorem dL_mends_15 : decode cL_mends 15 = .ok (.bipush (-2), 2) := by decide +kernel
theorem dL_mends_17 : decode cL_mends 17 = .ok (.ireturn, 1) := by decide +kernel
theorem dL_append_0 : decode cL_append 0 = .ok (.aload_n 0, 1) := by decide +kernel
theorem dL_append_1 : decode cL_append 1 = .ok (.iload_n 1, 1) := by decide +kernel
theorem dL_append_2 : decode cL_append 2 = .ok (.invokevirtual 66, 3) := by decide +kernel
theorem dL_append_5 : decode cL_append 5 = .ok (.ireturn, 1) := by decide +kernel
theorem dL_append_6 : decode cL_append 6 = .ok (.astore_n 2, 1) := by decide +kernel
theorem dL_append_7 : decode cL_append 7 = .ok (.bipush (-2), 2) := by decide +kernel
theorem dL_append_9 : decode cL_append 9 = .ok (.ireturn, 1) := by decide +kernel
theorem dL_append_10 : decode cL_append 10 = .ok (.astore_n 2, 1) := by decide +kernel
theorem dL_append_11 : decode cL_append 11 = .ok (.bipush (-3), 2) := by decide +kernel
theorem dL_append_13 : decode cL_append 13 = .ok (.ireturn, 1) := by decide +kernel
theorem dL_work_0 : decode cL_work 0 = .ok (.aload_n 0, 1) := by decide +kernel
theorem dL_work_1 : decode cL_work 1 = .ok (.invokevirtual 69, 3) := by decide +kernel
theorem dL_work_4 : decode cL_work 4 = .ok (.ireturn, 1) := by decide +kernel
theorem dL_work_5 : decode cL_work 5 = .ok (.astore_n 1, 1) := by decide +kernel
theorem dL_work_6 : decode cL_work 6 = .ok (.bipush (-2), 2) := by decide +kernel
theorem dL_work_8 : decode cL_work 8 = .ok (.ireturn, 1) := by decide +kernel
theorem dL_stopped_0 : decode cL_stopped 0 = .ok (.aload_n 0, 1) := by decide +kernel
theorem dL_stopped_1 : decode cL_stopped 1 = .ok (.iload_n 1, 1) := by decide +kernel
theorem dL_stopped_2 : decode cL_stopped 2 = .ok (.invokevirtual 73, 3) := by decide +kernel
theorem dL_stopped_5 : decode cL_stopped 5 = .ok (.ireturn, 1) := by decide +kernel
theorem dL_stopped_6 : decode cL_stopped 6 = .ok (.astore_n 2, 1) := by decide +kernel
theorem dL_stopped_7 : decode cL_stopped 7 = .ok (.bipush (-2), 2) := by decide +kernel
theorem dL_stopped_9 : decode cL_stopped 9 = .ok (.ireturn, 1) := by decide +kernel
theorem dL_undo_0 : decode cL_undo 0 = .ok (.aload_n 0, 1) := by decide +kernel
theorem dL_undo_1 : decode cL_undo 1 = .ok (.invokevirtual 76, 3) := by decide +kernel
theorem dL_undo_4 : decode cL_undo 4 = .ok (.ireturn, 1) := by decide +kernel
theorem dL_undo_5 : decode cL_undo 5 = .ok (.astore_n 1, 1) := by decide +kernel
theorem dL_undo_6 : decode cL_undo 6 = .ok (.bipush (-2), 2) := by decide +kernel
theorem dL_undo_8 : decode cL_undo 8 = .ok (.ireturn, 1) := by decide +kernel
theorem dL_restore_0 : decode cL_restore 0 = .ok (.aload_n 0, 1) := by decide +kernel
theorem dL_restore_1 : decode cL_restore 1 = .ok (.invokevirtual 79, 3) := by decide +kernel
theorem dL_restore_4 : decode cL_restore 4 = .ok (.ireturn, 1) := by decide +kernel
theorem dL_restore_5 : decode cL_restore 5 = .ok (.astore_n 1, 1) := by decide +kernel
theorem dL_restore_6 : decode cL_restore 6 = .ok (.bipush (-2), 2) := by decide +kernel
theorem dL_restore_8 : decode cL_restore 8 = .ok (.ireturn, 1) := by decide +kernel
theorem dL_acts_0 : decode cL_acts 0 = .ok (.iload_n 1, 1) := by decide +kernel
theorem dL_acts_1 : decode cL_acts 1 = .ok (.bipush 32, 2) := by decide +kernel
theorem dL_acts_3 : decode cL_acts 3 = .ok (.idiv, 1) := by decide +kernel
theorem dL_acts_4 : decode cL_acts 4 = .ok (.istore_n 2, 1) := by decide +kernel
theorem dL_acts_5 : decode cL_acts 5 = .ok (.iload_n 2, 1) := by decide +kernel
theorem dL_acts_6 : decode cL_acts 6 = .ok (.iconst 5, 1) := by decide +kernel
theorem dL_acts_7 : decode cL_acts 7 = .ok (.irem, 1) := by decide +kernel
theorem dL_acts_8 : decode cL_acts 8 = .ok (.istore_n 3, 1) := by decide +kernel
theorem dL_acts_9 : decode cL_acts 9 = .ok (.iload_n 3, 1) := by decide +kernel
theorem dL_acts_10 : decode cL_acts 10 = .ok (.iconst 1, 1) := by decide +kernel
theorem dL_acts_11 : decode cL_acts 11 = .ok (.iadd, 1) := by decide +kernel
theorem dL_acts_12 : decode cL_acts 12 = .ok (.iload_n 2, 1) := by decide +kernel
theorem dL_acts_13 : decode cL_acts 13 = .ok (.iconst 5, 1) := by decide +kernel
theorem dL_acts_14 : decode cL_acts 14 = .ok (.idiv, 1) := by decide +kernel
theorem dL_acts_15 : decode cL_acts 15 = .ok (.iconst 4, 1) := by decide +kernel
theorem dL_acts_16 : decode cL_acts 16 = .ok (.irem, 1) := by decide +kernel
theorem dL_acts_17 : decode cL_acts 17 = .ok (.iadd, 1) := by decide +kernel
theorem dL_acts_18 : decode cL_acts 18 = .ok (.iconst 5, 1) := by decide +kernel
theorem dL_acts_19 : decode cL_acts 19 = .ok (.irem, 1) := by decide +kernel
theorem dL_acts_20 : decode cL_acts 20 = .ok (.istore 4, 2) := by decide +kernel
theorem dL_acts_22 : decode cL_acts 22 = .ok (.iload_n 1, 1) := by decide +kernel
theorem dL_acts_23 : decode cL_acts 23 = .ok (.bipush 32, 2) := by decide +kernel
theorem dL_acts_25 : decode cL_acts 25 = .ok (.irem, 1) := by decide +kernel
theorem dL_acts_26 : decode cL_acts 26 = .ok (.tableswitch 554 0 24 #[114, 114, 114, 114, 114, 114, 114, 114, 139, 147, 147, 147, 170, 202, 218, 218, 218, 234, 243, 243, 248, 253, 258, 258, 258], 114) := by decide +kernel
theorem dL_acts_140 : decode cL_acts 140 = .ok (.aload_n 0, 1) := by decide +kernel
theorem dL_acts_141 : decode cL_acts 141 = .ok (.iload_n 3, 1) := by decide +kernel
theorem dL_acts_142 : decode cL_acts 142 = .ok (.iload 4, 2) := by decide +kernel
theorem dL_acts_144 : decode cL_acts 144 = .ok (.iconst 1, 1) := by decide +kernel
theorem dL_acts_145 : decode cL_acts 145 = .ok (.iload_n 2, 1) := by decide +kernel
theorem dL_acts_146 : decode cL_acts 146 = .ok (.bipush 32, 2) := by decide +kernel
theorem dL_acts_148 : decode cL_acts 148 = .ok (.idiv, 1) := by decide +kernel
theorem dL_acts_149 : decode cL_acts 149 = .ok (.iconst 5, 1) := by decide +kernel
theorem dL_acts_150 : decode cL_acts 150 = .ok (.irem, 1) := by decide +kernel
theorem dL_acts_151 : decode cL_acts 151 = .ok (.iadd, 1) := by decide +kernel
theorem dL_acts_152 : decode cL_acts 152 = .ok (.iconst 1, 1) := by decide +kernel
theorem dL_acts_153 : decode cL_acts 153 = .ok (.iload_n 2, 1) := by decide +kernel
theorem dL_acts_154 : decode cL_acts 154 = .ok (.sipush 256, 3) := by decide +kernel
theorem dL_acts_157 : decode cL_acts 157 = .ok (.idiv, 1) := by decide +kernel
theorem dL_acts_158 : decode cL_acts 158 = .ok (.iconst 5, 1) := by decide +kernel
theorem dL_acts_159 : decode cL_acts 159 = .ok (.irem, 1) := by decide +kernel
theorem dL_acts_160 : decode cL_acts 160 = .ok (.iadd, 1) := by decide +kernel
theorem dL_acts_161 : decode cL_acts 161 = .ok (.invokestatic 82, 3) := by decide +kernel
theorem dL_acts_164 : decode cL_acts 164 = .ok (.ireturn, 1) := by decide +kernel
theorem dL_acts_165 : decode cL_acts 165 = .ok (.aload_n 0, 1) := by decide +kernel
theorem dL_acts_166 : decode cL_acts 166 = .ok (.iload_n 3, 1) := by decide +kernel
theorem dL_acts_167 : decode cL_acts 167 = .ok (.iload 4, 2) := by decide +kernel
theorem dL_acts_169 : decode cL_acts 169 = .ok (.invokestatic 87, 3) := by decide +kernel
theorem dL_acts_172 : decode cL_acts 172 = .ok (.ireturn, 1) := by decide +kernel
theorem dL_acts_173 : decode cL_acts 173 = .ok (.aload_n 0, 1) := by decide +kernel
theorem dL_acts_174 : decode cL_acts 174 = .ok (.iconst 0, 1) := by decide +kernel
theorem dL_acts_175 : decode cL_acts 175 = .ok (.iload_n 2, 1) := by decide +kernel
theorem dL_acts_176 : decode cL_acts 176 = .ok (.iconst 4, 1) := by decide +kernel
theorem dL_acts_177 : decode cL_acts 177 = .ok (.irem, 1) := by decide +kernel
theorem dL_acts_178 : decode cL_acts 178 = .ok (.ifCond .ne 7, 3) := by decide +kernel
theorem dL_acts_181 : decode cL_acts 181 = .ok (.iconst 0, 1) := by decide +kernel
theorem dL_acts_182 : decode cL_acts 182 = .ok (.goto 10, 3) := by decide +kernel
theorem dL_acts_185 : decode cL_acts 185 = .ok (.iload_n 2, 1) := by decide +kernel
theorem dL_acts_186 : decode cL_acts 186 = .ok (.iconst 4, 1) := by decide +kernel
theorem dL_acts_187 : decode cL_acts 187 = .ok (.idiv, 1) := by decide +kernel
theorem dL_acts_188 : decode cL_acts 188 = .ok (.sipush 501, 3) := by decide +kernel
theorem dL_acts_191 : decode cL_acts 191 = .ok (.irem, 1) := by decide +kernel
theorem dL_acts_192 : decode cL_acts 192 = .ok (.invokestatic 90, 3) := by decide +kernel
theorem dL_acts_195 : decode cL_acts 195 = .ok (.ireturn, 1) := by decide +kernel
theorem dL_acts_196 : decode cL_acts 196 = .ok (.iload_n 2, 1) := by decide +kernel
theorem dL_acts_197 : decode cL_acts 197 = .ok (.iconst 2, 1) := by decide +kernel
theorem dL_acts_198 : decode cL_acts 198 = .ok (.irem, 1) := by decide +kernel
theorem dL_acts_199 : decode cL_acts 199 = .ok (.ifCond .ne 16, 3) := by decide +kernel
theorem dL_acts_202 : decode cL_acts 202 = .ok (.aload_n 0, 1) := by decide +kernel
theorem dL_acts_203 : decode cL_acts 203 = .ok (.iconst 1, 1) := by decide +kernel
theorem dL_acts_204 : decode cL_acts 204 = .ok (.iload_n 2, 1) := by decide +kernel
theorem dL_acts_205 : decode cL_acts 205 = .ok (.iconst 2, 1) := by decide +kernel
theorem dL_acts_206 : decode cL_acts 206 = .ok (.idiv, 1) := by decide +kernel
theorem dL_acts_207 : decode cL_acts 207 = .ok (.iconst 2, 1) := by decide +kernel
theorem dL_acts_208 : decode cL_acts 208 = .ok (.irem, 1) := by decide +kernel
theorem dL_acts_209 : decode cL_acts 209 = .ok (.invokestatic 90, 3) := by decide +kernel
theorem dL_acts_212 : decode cL_acts 212 = .ok (.goto 15, 3) := by decide +kernel
theorem dL_acts_215 : decode cL_acts 215 = .ok (.aload_n 0, 1) := by decide +kernel
theorem dL_acts_216 : decode cL_acts 216 = .ok (.iconst 2, 1) := by decide +kernel
theorem dL_acts_217 : decode cL_acts 217 = .ok (.iconst 1, 1) := by decide +kernel
theorem dL_acts_218 : decode cL_acts 218 = .ok (.iload_n 2, 1) := by decide +kernel
theorem dL_acts_219 : decode cL_acts 219 = .ok (.iconst 2, 1) := by decide +kernel
theorem dL_acts_220 : decode cL_acts 220 = .ok (.idiv, 1) := by decide +kernel
theorem dL_acts_221 : decode cL_acts 221 = .ok (.iconst 4, 1) := by decide +kernel
theorem dL_acts_222 : decode cL_acts 222 = .ok (.irem, 1) := by decide +kernel
theorem dL_acts_223 : decode cL_acts 223 = .ok (.iadd, 1) := by decide +kernel
theorem dL_acts_224 : decode cL_acts 224 = .ok (.invokestatic 90, 3) := by decide +kernel
theorem dL_acts_227 : decode cL_acts 227 = .ok (.ireturn, 1) := by decide +kernel
theorem dL_acts_228 : decode cL_acts 228 = .ok (.aload_n 0, 1) := by decide +kernel
theorem dL_acts_229 : decode cL_acts 229 = .ok (.iload_n 3, 1) := by decide +kernel
theorem dL_acts_230 : decode cL_acts 230 = .ok (.bipush 20, 2) := by decide +kernel
theorem dL_acts_232 : decode cL_acts 232 = .ok (.iload_n 2, 1) := by decide +kernel
theorem dL_acts_233 : decode cL_acts 233 = .ok (.bipush 8, 2) := by decide +kernel
theorem dL_acts_235 : decode cL_acts 235 = .ok (.idiv, 1) := by decide +kernel
theorem dL_acts_236 : decode cL_acts 236 = .ok (.bipush 41, 2) := by decide +kernel
theorem dL_acts_238 : decode cL_acts 238 = .ok (.irem, 1) := by decide +kernel
theorem dL_acts_239 : decode cL_acts 239 = .ok (.iadd, 1) := by decide +kernel
theorem dL_acts_240 : decode cL_acts 240 = .ok (.invokestatic 92, 3) := by decide +kernel
theorem dL_acts_243 : decode cL_acts 243 = .ok (.ireturn, 1) := by decide +kernel
theorem dL_acts_244 : decode cL_acts 244 = .ok (.aload_n 0, 1) := by decide +kernel
theorem dL_acts_245 : decode cL_acts 245 = .ok (.iload_n 3, 1) := by decide +kernel
theorem dL_acts_246 : decode cL_acts 246 = .ok (.iconst 1, 1) := by decide +kernel
theorem dL_acts_247 : decode cL_acts 247 = .ok (.iload_n 2, 1) := by decide +kernel
theorem dL_acts_248 : decode cL_acts 248 = .ok (.bipush 32, 2) := by decide +kernel
theorem dL_acts_250 : decode cL_acts 250 = .ok (.idiv, 1) := by decide +kernel
theorem dL_acts_251 : decode cL_acts 251 = .ok (.sipush 9999, 3) := by decide +kernel
theorem dL_acts_254 : decode cL_acts 254 = .ok (.irem, 1) := by decide +kernel
theorem dL_acts_255 : decode cL_acts 255 = .ok (.iadd, 1) := by decide +kernel
theorem dL_acts_256 : decode cL_acts 256 = .ok (.invokestatic 94, 3) := by decide +kernel
theorem dL_acts_259 : decode cL_acts 259 = .ok (.ireturn, 1) := by decide +kernel
theorem dL_acts_260 : decode cL_acts 260 = .ok (.aload_n 0, 1) := by decide +kernel
theorem dL_acts_261 : decode cL_acts 261 = .ok (.iload_n 2, 1) := by decide +kernel
theorem dL_acts_262 : decode cL_acts 262 = .ok (.bipush 8, 2) := by decide +kernel
theorem dL_acts_264 : decode cL_acts 264 = .ok (.irem, 1) := by decide +kernel
theorem dL_acts_265 : decode cL_acts 265 = .ok (.invokestatic 96, 3) := by decide +kernel
theorem dL_acts_268 : decode cL_acts 268 = .ok (.ireturn, 1) := by decide +kernel
theorem dL_acts_269 : decode cL_acts 269 = .ok (.aload_n 0, 1) := by decide +kernel
theorem dL_acts_270 : decode cL_acts 270 = .ok (.invokestatic 99, 3) := by decide +kernel
theorem dL_acts_273 : decode cL_acts 273 = .ok (.ireturn, 1) := by decide +kernel
theorem dL_acts_274 : decode cL_acts 274 = .ok (.aload_n 0, 1) := by decide +kernel
theorem dL_acts_275 : decode cL_acts 275 = .ok (.invokevirtual 102, 3) := by decide +kernel
theorem dL_acts_278 : decode cL_acts 278 = .ok (.ireturn, 1) := by decide +kernel
theorem dL_acts_279 : decode cL_acts 279 = .ok (.aload_n 0, 1) := by decide +kernel
theorem dL_acts_280 : decode cL_acts 280 = .ok (.invokestatic 105, 3) := by decide +kernel
theorem dL_acts_283 : decode cL_acts 283 = .ok (.ireturn, 1) := by decide +kernel
theorem dL_acts_284 : decode cL_acts 284 = .ok (.aload_n 0, 1) := by decide +kernel
theorem dL_acts_285 : decode cL_acts 285 = .ok (.invokevirtual 107, 3) := by decide +kernel
theorem dL_acts_288 : decode cL_acts 288 = .ok (.istore 5, 2) := by decide +kernel
theorem dL_acts_290 : decode cL_acts 290 = .ok (.iconst 0, 1) := by decide +kernel
theorem dL_acts_291 : decode cL_acts 291 = .ok (.istore 6, 2) := by decide +kernel
theorem dL_acts_293 : decode cL_acts 293 = .ok (.iload 6, 2) := by decide +kernel
theorem dL_acts_295 : decode cL_acts 295 = .ok (.iconst 1, 1) := by decide +kernel
theorem dL_acts_296 : decode cL_acts 296 = .ok (.iload_n 2, 1) := by decide +kernel
theorem dL_acts_297 : decode cL_acts 297 = .ok (.iconst 4, 1) := by decide +kernel
theorem dL_acts_298 : decode cL_acts 298 = .ok (.irem, 1) := by decide +kernel
theorem dL_acts_299 : decode cL_acts 299 = .ok (.iadd, 1) := by decide +kernel
theorem dL_acts_300 : decode cL_acts 300 = .ok (.if_icmp .ge 255, 3) := by decide +kernel
theorem dL_acts_303 : decode cL_acts 303 = .ok (.iload_n 2, 1) := by decide +kernel
theorem dL_acts_304 : decode cL_acts 304 = .ok (.iconst 4, 1) := by decide +kernel
theorem dL_acts_305 : decode cL_acts 305 = .ok (.idiv, 1) := by decide +kernel
theorem dL_acts_306 : decode cL_acts 306 = .ok (.iconst 5, 1) := by decide +kernel
theorem dL_acts_307 : decode cL_acts 307 = .ok (.iload 6, 2) := by decide +kernel
theorem dL_acts_309 : decode cL_acts 309 = .ok (.imul, 1) := by decide +kernel
theorem dL_acts_310 : decode cL_acts 310 = .ok (.ishr, 1) := by decide +kernel
theorem dL_acts_311 : decode cL_acts 311 = .ok (.istore 7, 2) := by decide +kernel
theorem dL_acts_313 : decode cL_acts 313 = .ok (.iload 7, 2) := by decide +kernel
theorem dL_acts_315 : decode cL_acts 315 = .ok (.bipush 8, 2) := by decide +kernel
theorem dL_acts_317 : decode cL_acts 317 = .ok (.irem, 1) := by decide +kernel
theorem dL_acts_318 : decode cL_acts 318 = .ok (.istore 8, 2) := by decide +kernel
theorem dL_acts_320 : decode cL_acts 320 = .ok (.iload 6, 2) := by decide +kernel
theorem dL_acts_322 : decode cL_acts 322 = .ok (.ifCond .le 12, 3) := by decide +kernel
theorem dL_acts_325 : decode cL_acts 325 = .ok (.aload_n 0, 1) := by decide +kernel
theorem dL_acts_326 : decode cL_acts 326 = .ok (.bipush 59, 2) := by decide +kernel
theorem dL_acts_328 : decode cL_acts 328 = .ok (.invokestatic 110, 3) := by decide +kernel
theorem dL_acts_331 : decode cL_acts 331 = .ok (.goto 4, 3) := by decide +kernel
theorem dL_acts_334 : decode cL_acts 334 = .ok (.iconst 0, 1) := by decide +kernel
theorem dL_acts_335 : decode cL_acts 335 = .ok (.istore 5, 2) := by decide +kernel
theorem dL_acts_337 : decode cL_acts 337 = .ok (.iload 8, 2) := by decide +kernel
theorem dL_acts_339 : decode cL_acts 339 = .ok (.ifCond .ne 12, 3) := by decide +kernel
theorem dL_acts_342 : decode cL_acts 342 = .ok (.aload_n 0, 1) := by decide +kernel
theorem dL_acts_343 : decode cL_acts 343 = .ok (.bipush 45, 2) := by decide +kernel
theorem dL_acts_345 : decode cL_acts 345 = .ok (.invokestatic 110, 3) := by decide +kernel
theorem dL_acts_348 : decode cL_acts 348 = .ok (.goto 35, 3) := by decide +kernel
theorem dL_acts_351 : decode cL_acts 351 = .ok (.iload 8, 2) := by decide +kernel
theorem dL_acts_353 : decode cL_acts 353 = .ok (.iconst 1, 1) := by decide +kernel
theorem dL_acts_354 : decode cL_acts 354 = .ok (.if_icmp .ne 12, 3) := by decide +kernel
theorem dL_acts_357 : decode cL_acts 357 = .ok (.aload_n 0, 1) := by decide +kernel
theorem dL_acts_358 : decode cL_acts 358 = .ok (.bipush 98, 2) := by decide +kernel
theorem dL_acts_360 : decode cL_acts 360 = .ok (.invokestatic 110, 3) := by decide +kernel
theorem dL_acts_363 : decode cL_acts 363 = .ok (.goto 20, 3) := by decide +kernel
theorem dL_acts_366 : decode cL_acts 366 = .ok (.iload 8, 2) := by decide +kernel
theorem dL_acts_368 : decode cL_acts 368 = .ok (.iconst 5, 1) := by decide +kernel
theorem dL_acts_369 : decode cL_acts 369 = .ok (.if_icmp .ge 12, 3) := by decide +kernel
theorem dL_acts_372 : decode cL_acts 372 = .ok (.aload_n 0, 1) := by decide +kernel
theorem dL_acts_373 : decode cL_acts 373 = .ok (.bipush 115, 2) := by decide +kernel
theorem dL_acts_375 : decode cL_acts 375 = .ok (.invokestatic 110, 3) := by decide +kernel
theorem dL_acts_378 : decode cL_acts 378 = .ok (.goto 5, 3) := by decide +kernel
theorem dL_acts_381 : decode cL_acts 381 = .ok (.iload 5, 2) := by decide +kernel
theorem dL_acts_383 : decode cL_acts 383 = .ok (.istore 5, 2) := by decide +kernel
theorem dL_acts_385 : decode cL_acts 385 = .ok (.aload_n 0, 1) := by decide +kernel
theorem dL_acts_386 : decode cL_acts 386 = .ok (.bipush 48, 2) := by decide +kernel
theorem dL_acts_388 : decode cL_acts 388 = .ok (.iload 7, 2) := by decide +kernel
theorem dL_acts_390 : decode cL_acts 390 = .ok (.bipush 8, 2) := by decide +kernel
theorem dL_acts_392 : decode cL_acts 392 = .ok (.idiv, 1) := by decide +kernel
theorem dL_acts_393 : decode cL_acts 393 = .ok (.iconst 5, 1) := by decide +kernel
theorem dL_acts_394 : decode cL_acts 394 = .ok (.irem, 1) := by decide +kernel
theorem dL_acts_395 : decode cL_acts 395 = .ok (.iadd, 1) := by decide +kernel
theorem dL_acts_396 : decode cL_acts 396 = .ok (.invokestatic 110, 3) := by decide +kernel
theorem dL_acts_399 : decode cL_acts 399 = .ok (.istore 5, 2) := by decide +kernel
theorem dL_acts_401 : decode cL_acts 401 = .ok (.aload_n 0, 1) := by decide +kernel
theorem dL_acts_402 : decode cL_acts 402 = .ok (.iload 8, 2) := by decide +kernel
theorem dL_acts_404 : decode cL_acts 404 = .ok (.iconst 1, 1) := by decide +kernel
theorem dL_acts_405 : decode cL_acts 405 = .ok (.if_icmp .ne 8, 3) := by decide +kernel
theorem dL_acts_408 : decode cL_acts 408 = .ok (.bipush 61, 2) := by decide +kernel
theorem dL_acts_410 : decode cL_acts 410 = .ok (.goto 5, 3) := by decide +kernel
theorem dL_acts_413 : decode cL_acts 413 = .ok (.bipush 62, 2) := by decide +kernel
theorem dL_acts_415 : decode cL_acts 415 = .ok (.invokestatic 110, 3) := by decide +kernel
theorem dL_acts_418 : decode cL_acts 418 = .ok (.istore 5, 2) := by decide +kernel
theorem dL_acts_420 : decode cL_acts 420 = .ok (.aload_n 0, 1) := by decide +kernel
theorem dL_acts_421 : decode cL_acts 421 = .ok (.iload 8, 2) := by decide +kernel
theorem dL_acts_423 : decode cL_acts 423 = .ok (.iconst 1, 1) := by decide +kernel
theorem dL_acts_424 : decode cL_acts 424 = .ok (.if_icmp .ne 17, 3) := by decide +kernel
theorem dL_acts_427 : decode cL_acts 427 = .ok (.bipush 49, 2) := by decide +kernel
theorem dL_acts_429 : decode cL_acts 429 = .ok (.iload 7, 2) := by decide +kernel
theorem dL_acts_431 : decode cL_acts 431 = .ok (.bipush 16, 2) := by decide +kernel
theorem dL_acts_433 : decode cL_acts 433 = .ok (.idiv, 1) := by decide +kernel
theorem dL_acts_434 : decode cL_acts 434 = .ok (.bipush 9, 2) := by decide +kernel
theorem dL_acts_436 : decode cL_acts 436 = .ok (.irem, 1) := by decide +kernel
theorem dL_acts_437 : decode cL_acts 437 = .ok (.iadd, 1) := by decide +kernel
theorem dL_acts_438 : decode cL_acts 438 = .ok (.goto 13, 3) := by decide +kernel
theorem dL_acts_441 : decode cL_acts 441 = .ok (.bipush 48, 2) := by decide +kernel
theorem dL_acts_443 : decode cL_acts 443 = .ok (.iload 7, 2) := by decide +kernel
theorem dL_acts_445 : decode cL_acts 445 = .ok (.bipush 16, 2) := by decide +kernel
theorem dL_acts_447 : decode cL_acts 447 = .ok (.idiv, 1) := by decide +kernel
theorem dL_acts_448 : decode cL_acts 448 = .ok (.iconst 5, 1) := by decide +kernel
theorem dL_acts_449 : decode cL_acts 449 = .ok (.irem, 1) := by decide +kernel
theorem dL_acts_450 : decode cL_acts 450 = .ok (.iadd, 1) := by decide +kernel
theorem dL_acts_451 : decode cL_acts 451 = .ok (.invokestatic 110, 3) := by decide +kernel
theorem dL_acts_454 : decode cL_acts 454 = .ok (.istore 5, 2) := by decide +kernel
theorem dL_acts_456 : decode cL_acts 456 = .ok (.iload 8, 2) := by decide +kernel
theorem dL_acts_458 : decode cL_acts 458 = .ok (.iconst 4, 1) := by decide +kernel
theorem dL_acts_459 : decode cL_acts 459 = .ok (.if_icmp .le 12, 3) := by decide +kernel
theorem dL_acts_462 : decode cL_acts 462 = .ok (.aload_n 0, 1) := by decide +kernel
theorem dL_acts_463 : decode cL_acts 463 = .ok (.bipush 61, 2) := by decide +kernel
theorem dL_acts_465 : decode cL_acts 465 = .ok (.invokestatic 110, 3) := by decide +kernel
theorem dL_acts_468 : decode cL_acts 468 = .ok (.goto 5, 3) := by decide +kernel
theorem dL_acts_471 : decode cL_acts 471 = .ok (.iload 5, 2) := by decide +kernel
theorem dL_acts_473 : decode cL_acts 473 = .ok (.istore 5, 2) := by decide +kernel
theorem dL_acts_475 : decode cL_acts 475 = .ok (.iload 8, 2) := by decide +kernel
theorem dL_acts_477 : decode cL_acts 477 = .ok (.iconst 4, 1) := by decide +kernel
theorem dL_acts_478 : decode cL_acts 478 = .ok (.if_icmp .le 20, 3) := by decide +kernel
theorem dL_acts_481 : decode cL_acts 481 = .ok (.aload_n 0, 1) := by decide +kernel
theorem dL_acts_482 : decode cL_acts 482 = .ok (.bipush 49, 2) := by decide +kernel
theorem dL_acts_484 : decode cL_acts 484 = .ok (.iload 7, 2) := by decide +kernel
theorem dL_acts_486 : decode cL_acts 486 = .ok (.bipush 32, 2) := by decide +kernel
theorem dL_acts_488 : decode cL_acts 488 = .ok (.idiv, 1) := by decide +kernel
theorem dL_acts_489 : decode cL_acts 489 = .ok (.iconst 3, 1) := by decide +kernel
theorem dL_acts_490 : decode cL_acts 490 = .ok (.irem, 1) := by decide +kernel
theorem dL_acts_491 : decode cL_acts 491 = .ok (.iadd, 1) := by decide +kernel
theorem dL_acts_492 : decode cL_acts 492 = .ok (.invokestatic 110, 3) := by decide +kernel
theorem dL_acts_495 : decode cL_acts 495 = .ok (.goto 5, 3) := by decide +kernel
theorem dL_acts_498 : decode cL_acts 498 = .ok (.iload 5, 2) := by decide +kernel
theorem dL_acts_500 : decode cL_acts 500 = .ok (.istore 5, 2) := by decide +kernel
theorem dL_acts_502 : decode cL_acts 502 = .ok (.iload 8, 2) := by decide +kernel
theorem dL_acts_504 : decode cL_acts 504 = .ok (.iconst 4, 1) := by decide +kernel
theorem dL_acts_505 : decode cL_acts 505 = .ok (.if_icmp .le 12, 3) := by decide +kernel
theorem dL_acts_508 : decode cL_acts 508 = .ok (.aload_n 0, 1) := by decide +kernel
theorem dL_acts_509 : decode cL_acts 509 = .ok (.bipush 47, 2) := by decide +kernel
theorem dL_acts_511 : decode cL_acts 511 = .ok (.invokestatic 110, 3) := by decide +kernel
theorem dL_acts_514 : decode cL_acts 514 = .ok (.goto 5, 3) := by decide +kernel
theorem dL_acts_517 : decode cL_acts 517 = .ok (.iload 5, 2) := by decide +kernel
theorem dL_acts_519 : decode cL_acts 519 = .ok (.istore 5, 2) := by decide +kernel
theorem dL_acts_521 : decode cL_acts 521 = .ok (.iload 8, 2) := by decide +kernel
theorem dL_acts_523 : decode cL_acts 523 = .ok (.iconst 4, 1) := by decide +kernel
theorem dL_acts_524 : decode cL_acts 524 = .ok (.if_icmp .le 21, 3) := by decide +kernel
theorem dL_acts_527 : decode cL_acts 527 = .ok (.aload_n 0, 1) := by decide +kernel
theorem dL_acts_528 : decode cL_acts 528 = .ok (.bipush 49, 2) := by decide +kernel
theorem dL_acts_530 : decode cL_acts 530 = .ok (.iload 7, 2) := by decide +kernel
theorem dL_acts_532 : decode cL_acts 532 = .ok (.sipush 128, 3) := by decide +kernel
theorem dL_acts_535 : decode cL_acts 535 = .ok (.idiv, 1) := by decide +kernel
theorem dL_acts_536 : decode cL_acts 536 = .ok (.iconst 3, 1) := by decide +kernel
theorem dL_acts_537 : decode cL_acts 537 = .ok (.irem, 1) := by decide +kernel
theorem dL_acts_538 : decode cL_acts 538 = .ok (.iadd, 1) := by decide +kernel
theorem dL_acts_539 : decode cL_acts 539 = .ok (.invokestatic 110, 3) := by decide +kernel
theorem dL_acts_542 : decode cL_acts 542 = .ok (.goto 5, 3) := by decide +kernel
theorem dL_acts_545 : decode cL_acts 545 = .ok (.iload 5, 2) := by decide +kernel
theorem dL_acts_547 : decode cL_acts 547 = .ok (.istore 5, 2) := by decide +kernel
theorem dL_acts_549 : decode cL_acts 549 = .ok (.iinc 6 1, 3) := by decide +kernel
theorem dL_acts_552 : decode cL_acts 552 = .ok (.goto (-259), 3) := by decide +kernel
theorem dL_acts_555 : decode cL_acts 555 = .ok (.iload 5, 2) := by decide +kernel
theorem dL_acts_557 : decode cL_acts 557 = .ok (.iconst 1, 1) := by decide +kernel
theorem dL_acts_558 : decode cL_acts 558 = .ok (.if_icmp .lt 12, 3) := by decide +kernel
theorem dL_acts_561 : decode cL_acts 561 = .ok (.aload_n 0, 1) := by decide +kernel
theorem dL_acts_562 : decode cL_acts 562 = .ok (.invokevirtual 112, 3) := by decide +kernel
theorem dL_acts_565 : decode cL_acts 565 = .ok (.iload 5, 2) := by decide +kernel
theorem dL_acts_567 : decode cL_acts 567 = .ok (.if_icmp .eq 8, 3) := by decide +kernel
theorem dL_acts_570 : decode cL_acts 570 = .ok (.bipush (-9), 2) := by decide +kernel
theorem dL_acts_572 : decode cL_acts 572 = .ok (.goto 7, 3) := by decide +kernel
theorem dL_acts_575 : decode cL_acts 575 = .ok (.aload_n 0, 1) := by decide +kernel
theorem dL_acts_576 : decode cL_acts 576 = .ok (.invokestatic 115, 3) := by decide +kernel
theorem dL_acts_579 : decode cL_acts 579 = .ok (.ireturn, 1) := by decide +kernel
theorem dL_acts_580 : decode cL_acts 580 = .ok (.aload_n 0, 1) := by decide +kernel
theorem dL_acts_581 : decode cL_acts 581 = .ok (.iload_n 2, 1) := by decide +kernel
theorem dL_acts_582 : decode cL_acts 582 = .ok (.bipush 8, 2) := by decide +kernel
theorem dL_acts_584 : decode cL_acts 584 = .ok (.idiv, 1) := by decide +kernel
theorem dL_acts_585 : decode cL_acts 585 = .ok (.bipush 8, 2) := by decide +kernel
theorem dL_acts_587 : decode cL_acts 587 = .ok (.irem, 1) := by decide +kernel
theorem dL_acts_588 : decode cL_acts 588 = .ok (.iload_n 3, 1) := by decide +kernel
theorem dL_acts_589 : decode cL_acts 589 = .ok (.invokestatic 117, 3) := by decide +kernel
theorem dL_acts_592 : decode cL_acts 592 = .ok (.ireturn, 1) := by decide +kernel
theorem dL_hangs_0 : decode cL_hangs 0 = .ok (.iconst 0, 1) := by decide +kernel
theorem dL_hangs_1 : decode cL_hangs 1 = .ok (.istore_n 1, 1) := by decide +kernel
theorem dL_hangs_2 : decode cL_hangs 2 = .ok (.iconst 1, 1) := by decide +kernel
theorem dL_hangs_3 : decode cL_hangs 3 = .ok (.istore_n 2, 1) := by decide +kernel
theorem dL_hangs_4 : decode cL_hangs 4 = .ok (.iconst 0, 1) := by decide +kernel
theorem dL_hangs_5 : decode cL_hangs 5 = .ok (.istore_n 3, 1) := by decide +kernel
theorem dL_hangs_6 : decode cL_hangs 6 = .ok (.iload_n 3, 1) := by decide +kernel
theorem dL_hangs_7 : decode cL_hangs 7 = .ok (.bipush 25, 2) := by decide +kernel
theorem dL_hangs_9 : decode cL_hangs 9 = .ok (.if_icmp .ge 383, 3) := by decide +kernel
theorem dL_hangs_12 : decode cL_hangs 12 = .ok (.iload_n 2, 1) := by decide +kernel
theorem dL_hangs_13 : decode cL_hangs 13 = .ok (.ifCond .eq 379, 3) := by decide +kernel
theorem dL_hangs_16 : decode cL_hangs 16 = .ok (.iload_n 3, 1) := by decide +kernel
theorem dL_hangs_17 : decode cL_hangs 17 = .ok (.iconst 5, 1) := by decide +kernel
theorem dL_hangs_18 : decode cL_hangs 18 = .ok (.idiv, 1) := by decide +kernel
theorem dL_hangs_19 : decode cL_hangs 19 = .ok (.istore 4, 2) := by decide +kernel
theorem dL_hangs_21 : decode cL_hangs 21 = .ok (.iload_n 3, 1) := by decide +kernel
theorem dL_hangs_22 : decode cL_hangs 22 = .ok (.iconst 5, 1) := by decide +kernel
theorem dL_hangs_23 : decode cL_hangs 23 = .ok (.irem, 1) := by decide +kernel
theorem dL_hangs_24 : decode cL_hangs 24 = .ok (.istore 5, 2) := by decide +kernel
theorem dL_hangs_26 : decode cL_hangs 26 = .ok (.iload 4, 2) := by decide +kernel
theorem dL_hangs_28 : decode cL_hangs 28 = .ok (.iload 5, 2) := by decide +kernel
theorem dL_hangs_30 : decode cL_hangs 30 = .ok (.if_icmp .eq 356, 3) := by decide +kernel
theorem dL_hangs_33 : decode cL_hangs 33 = .ok (.aload_n 0, 1) := by decide +kernel
theorem dL_hangs_34 : decode cL_hangs 34 = .ok (.iload 4, 2) := by decide +kernel
theorem dL_hangs_36 : decode cL_hangs 36 = .ok (.iload 5, 2) := by decide +kernel
theorem dL_hangs_38 : decode cL_hangs 38 = .ok (.iconst 0, 1) := by decide +kernel
theorem dL_hangs_39 : decode cL_hangs 39 = .ok (.invokestatic 119, 3) := by decide +kernel
theorem dL_hangs_42 : decode cL_hangs 42 = .ok (.istore 6, 2) := by decide +kernel
theorem dL_hangs_44 : decode cL_hangs 44 = .ok (.aload_n 0, 1) := by decide +kernel
theorem dL_hangs_45 : decode cL_hangs 45 = .ok (.iload 4, 2) := by decide +kernel
theorem dL_hangs_47 : decode cL_hangs 47 = .ok (.iload 5, 2) := by decide +kernel
theorem dL_hangs_49 : decode cL_hangs 49 = .ok (.iconst 2, 1) := by decide +kernel
theorem dL_hangs_50 : decode cL_hangs 50 = .ok (.invokestatic 119, 3) := by decide +kernel
theorem dL_hangs_53 : decode cL_hangs 53 = .ok (.istore 7, 2) := by decide +kernel
theorem dL_hangs_55 : decode cL_hangs 55 = .ok (.iload 6, 2) := by decide +kernel
theorem dL_hangs_57 : decode cL_hangs 57 = .ok (.aload_n 0, 1) := by decide +kernel
theorem dL_hangs_58 : decode cL_hangs 58 = .ok (.iload 5, 2) := by decide +kernel
theorem dL_hangs_60 : decode cL_hangs 60 = .ok (.iload 4, 2) := by decide +kernel
theorem dL_hangs_62 : decode cL_hangs 62 = .ok (.iconst 1, 1) := by decide +kernel
theorem dL_hangs_63 : decode cL_hangs 63 = .ok (.invokestatic 119, 3) := by decide +kernel
theorem dL_hangs_66 : decode cL_hangs 66 = .ok (.if_icmp .ne 105, 3) := by decide +kernel
theorem dL_hangs_69 : decode cL_hangs 69 = .ok (.iload 7, 2) := by decide +kernel
theorem dL_hangs_71 : decode cL_hangs 71 = .ok (.aload_n 0, 1) := by decide +kernel
theorem dL_hangs_72 : decode cL_hangs 72 = .ok (.iload 5, 2) := by decide +kernel
theorem dL_hangs_74 : decode cL_hangs 74 = .ok (.iload 4, 2) := by decide +kernel
theorem dL_hangs_76 : decode cL_hangs 76 = .ok (.iconst 2, 1) := by decide +kernel
theorem dL_hangs_77 : decode cL_hangs 77 = .ok (.invokestatic 119, 3) := by decide +kernel
theorem dL_hangs_80 : decode cL_hangs 80 = .ok (.if_icmp .ne 91, 3) := by decide +kernel
theorem dL_hangs_83 : decode cL_hangs 83 = .ok (.iload 6, 2) := by decide +kernel
theorem dL_hangs_85 : decode cL_hangs 85 = .ok (.iconst (-1), 1) := by decide +kernel
theorem dL_hangs_86 : decode cL_hangs 86 = .ok (.if_icmp .ne 7, 3) := by decide +kernel
theorem dL_hangs_89 : decode cL_hangs 89 = .ok (.iconst 1, 1) := by decide +kernel
theorem dL_hangs_90 : decode cL_hangs 90 = .ok (.goto 4, 3) := by decide +kernel
theorem dL_hangs_93 : decode cL_hangs 93 = .ok (.iconst 0, 1) := by decide +kernel
theorem dL_hangs_94 : decode cL_hangs 94 = .ok (.aload_n 0, 1) := by decide +kernel
theorem dL_hangs_95 : decode cL_hangs 95 = .ok (.iload 5, 2) := by decide +kernel
theorem dL_hangs_97 : decode cL_hangs 97 = .ok (.iload 4, 2) := by decide +kernel
theorem dL_hangs_99 : decode cL_hangs 99 = .ok (.iconst 0, 1) := by decide +kernel
theorem dL_hangs_100 : decode cL_hangs 100 = .ok (.invokestatic 119, 3) := by decide +kernel
theorem dL_hangs_103 : decode cL_hangs 103 = .ok (.iconst (-1), 1) := by decide +kernel
theorem dL_hangs_104 : decode cL_hangs 104 = .ok (.if_icmp .ne 7, 3) := by decide +kernel
theorem dL_hangs_107 : decode cL_hangs 107 = .ok (.iconst 1, 1) := by decide +kernel
theorem dL_hangs_108 : decode cL_hangs 108 = .ok (.goto 4, 3) := by decide +kernel
theorem dL_hangs_111 : decode cL_hangs 111 = .ok (.iconst 0, 1) := by decide +kernel
theorem dL_hangs_112 : decode cL_hangs 112 = .ok (.if_icmp .ne 59, 3) := by decide +kernel
theorem dL_hangs_115 : decode cL_hangs 115 = .ok (.iload 6, 2) := by decide +kernel
theorem dL_hangs_117 : decode cL_hangs 117 = .ok (.iconst (-1), 1) := by decide +kernel
theorem dL_hangs_118 : decode cL_hangs 118 = .ok (.if_icmp .ne 25, 3) := by decide +kernel
theorem dL_hangs_121 : decode cL_hangs 121 = .ok (.iload 7, 2) := by decide +kernel
theorem dL_hangs_123 : decode cL_hangs 123 = .ok (.ifCond .ne 48, 3) := by decide +kernel
theorem dL_hangs_126 : decode cL_hangs 126 = .ok (.aload_n 0, 1) := by decide +kernel
theorem dL_hangs_127 : decode cL_hangs 127 = .ok (.iload 4, 2) := by decide +kernel
theorem dL_hangs_129 : decode cL_hangs 129 = .ok (.iload 5, 2) := by decide +kernel
theorem dL_hangs_131 : decode cL_hangs 131 = .ok (.bipush 9, 2) := by decide +kernel
theorem dL_hangs_133 : decode cL_hangs 133 = .ok (.invokestatic 122, 3) := by decide +kernel
theorem dL_hangs_136 : decode cL_hangs 136 = .ok (.iconst (-1), 1) := by decide +kernel
theorem dL_hangs_137 : decode cL_hangs 137 = .ok (.if_icmp .ne 34, 3) := by decide +kernel
theorem dL_hangs_140 : decode cL_hangs 140 = .ok (.goto 27, 3) := by decide +kernel
theorem dL_hangs_143 : decode cL_hangs 143 = .ok (.iload 6, 2) := by decide +kernel
theorem dL_hangs_145 : decode cL_hangs 145 = .ok (.ifCond .le 26, 3) := by decide +kernel
theorem dL_hangs_148 : decode cL_hangs 148 = .ok (.iload 6, 2) := by decide +kernel
theorem dL_hangs_150 : decode cL_hangs 150 = .ok (.bipush 100, 2) := by decide +kernel
theorem dL_hangs_152 : decode cL_hangs 152 = .ok (.if_icmp .ge 19, 3) := by decide +kernel
theorem dL_hangs_155 : decode cL_hangs 155 = .ok (.aload_n 0, 1) := by decide +kernel
theorem dL_hangs_156 : decode cL_hangs 156 = .ok (.iload 4, 2) := by decide +kernel
theorem dL_hangs_158 : decode cL_hangs 158 = .ok (.iload 5, 2) := by decide +kernel
theorem dL_hangs_160 : decode cL_hangs 160 = .ok (.iconst 0, 1) := by decide +kernel
theorem dL_hangs_161 : decode cL_hangs 161 = .ok (.invokestatic 122, 3) := by decide +kernel
theorem dL_hangs_164 : decode cL_hangs 164 = .ok (.ifCond .ne 7, 3) := by decide +kernel
theorem dL_hangs_167 : decode cL_hangs 167 = .ok (.iconst 1, 1) := by decide +kernel
theorem dL_hangs_168 : decode cL_hangs 168 = .ok (.goto 4, 3) := by decide +kernel
theorem dL_hangs_171 : decode cL_hangs 171 = .ok (.iconst 0, 1) := by decide +kernel
theorem dL_hangs_172 : decode cL_hangs 172 = .ok (.istore_n 2, 1) := by decide +kernel
theorem dL_hangs_173 : decode cL_hangs 173 = .ok (.iload_n 1, 1) := by decide +kernel
theorem dL_hangs_174 : decode cL_hangs 174 = .ok (.iload 4, 2) := by decide +kernel
theorem dL_hangs_176 : decode cL_hangs 176 = .ok (.iload 5, 2) := by decide +kernel
theorem dL_hangs_178 : decode cL_hangs 178 = .ok (.if_icmp .ge 12, 3) := by decide +kernel
theorem dL_hangs_181 : decode cL_hangs 181 = .ok (.iload 6, 2) := by decide +kernel
theorem dL_hangs_183 : decode cL_hangs 183 = .ok (.ifCond .le 7, 3) := by decide +kernel
theorem dL_hangs_186 : decode cL_hangs 186 = .ok (.iconst 1, 1) := by decide +kernel
theorem dL_hangs_187 : decode cL_hangs 187 = .ok (.goto 4, 3) := by decide +kernel
theorem dL_hangs_190 : decode cL_hangs 190 = .ok (.iconst 0, 1) := by decide +kernel
theorem dL_hangs_191 : decode cL_hangs 191 = .ok (.iadd, 1) := by decide +kernel
theorem dL_hangs_192 : decode cL_hangs 192 = .ok (.istore_n 1, 1) := by decide +kernel
theorem dL_hangs_193 : decode cL_hangs 193 = .ok (.aload_n 0, 1) := by decide +kernel
theorem dL_hangs_194 : decode cL_hangs 194 = .ok (.iload 4, 2) := by decide +kernel
theorem dL_hangs_196 : decode cL_hangs 196 = .ok (.iload 5, 2) := by decide +kernel
theorem dL_hangs_198 : decode cL_hangs 198 = .ok (.bipush 50, 2) := by decide +kernel
theorem dL_hangs_200 : decode cL_hangs 200 = .ok (.invokestatic 124, 3) := by decide +kernel
theorem dL_hangs_203 : decode cL_hangs 203 = .ok (.istore 8, 2) := by decide +kernel
theorem dL_hangs_205 : decode cL_hangs 205 = .ok (.iload_n 2, 1) := by decide +kernel
theorem dL_hangs_206 : decode cL_hangs 206 = .ok (.ifCond .eq 81, 3) := by decide +kernel
theorem dL_hangs_209 : decode cL_hangs 209 = .ok (.iload 8, 2) := by decide +kernel
theorem dL_hangs_211 : decode cL_hangs 211 = .ok (.iconst (-1), 1) := by decide +kernel
theorem dL_hangs_212 : decode cL_hangs 212 = .ok (.if_icmp .eq 27, 3) := by decide +kernel
theorem dL_hangs_215 : decode cL_hangs 215 = .ok (.iload 8, 2) := by decide +kernel
theorem dL_hangs_217 : decode cL_hangs 217 = .ok (.ldc 126, 2) := by decide +kernel
theorem dL_hangs_219 : decode cL_hangs 219 = .ok (.if_icmp .le 68, 3) := by decide +kernel
theorem dL_hangs_222 : decode cL_hangs 222 = .ok (.iload 8, 2) := by decide +kernel
theorem dL_hangs_224 : decode cL_hangs 224 = .ok (.ldc 127, 2) := by decide +kernel
theorem dL_hangs_226 : decode cL_hangs 226 = .ok (.if_icmp .ge 61, 3) := by decide +kernel
theorem dL_hangs_229 : decode cL_hangs 229 = .ok (.iload 8, 2) := by decide +kernel
theorem dL_hangs_231 : decode cL_hangs 231 = .ok (.bipush 10, 2) := by decide +kernel
theorem dL_hangs_233 : decode cL_hangs 233 = .ok (.irem, 1) := by decide +kernel
theorem dL_hangs_234 : decode cL_hangs 234 = .ok (.iload 5, 2) := by decide +kernel
theorem dL_hangs_236 : decode cL_hangs 236 = .ok (.if_icmp .ne 51, 3) := by decide +kernel
theorem dL_hangs_239 : decode cL_hangs 239 = .ok (.iload 6, 2) := by decide +kernel
theorem dL_hangs_241 : decode cL_hangs 241 = .ok (.iconst (-1), 1) := by decide +kernel
theorem dL_hangs_242 : decode cL_hangs 242 = .ok (.if_icmp .eq 8, 3) := by decide +kernel
theorem dL_hangs_245 : decode cL_hangs 245 = .ok (.iload 8, 2) := by decide +kernel
theorem dL_hangs_247 : decode cL_hangs 247 = .ok (.ifCond .le 40, 3) := by decide +kernel
theorem dL_hangs_250 : decode cL_hangs 250 = .ok (.iload 8, 2) := by decide +kernel
theorem dL_hangs_252 : decode cL_hangs 252 = .ok (.iconst (-1), 1) := by decide +kernel
theorem dL_hangs_253 : decode cL_hangs 253 = .ok (.if_icmp .ne 7, 3) := by decide +kernel
theorem dL_hangs_256 : decode cL_hangs 256 = .ok (.iconst 1, 1) := by decide +kernel
theorem dL_hangs_257 : decode cL_hangs 257 = .ok (.goto 4, 3) := by decide +kernel
theorem dL_hangs_260 : decode cL_hangs 260 = .ok (.iconst 0, 1) := by decide +kernel
theorem dL_hangs_261 : decode cL_hangs 261 = .ok (.aload_n 0, 1) := by decide +kernel
theorem dL_hangs_262 : decode cL_hangs 262 = .ok (.iload 5, 2) := by decide +kernel
theorem dL_hangs_264 : decode cL_hangs 264 = .ok (.iload 4, 2) := by decide +kernel
theorem dL_hangs_266 : decode cL_hangs 266 = .ok (.bipush 50, 2) := by decide +kernel
theorem dL_hangs_268 : decode cL_hangs 268 = .ok (.invokestatic 124, 3) := by decide +kernel
theorem dL_hangs_271 : decode cL_hangs 271 = .ok (.iconst (-1), 1) := by decide +kernel
theorem dL_hangs_272 : decode cL_hangs 272 = .ok (.if_icmp .ne 7, 3) := by decide +kernel
theorem dL_hangs_275 : decode cL_hangs 275 = .ok (.iconst 1, 1) := by decide +kernel
theorem dL_hangs_276 : decode cL_hangs 276 = .ok (.goto 4, 3) := by decide +kernel
theorem dL_hangs_279 : decode cL_hangs 279 = .ok (.iconst 0, 1) := by decide +kernel
theorem dL_hangs_280 : decode cL_hangs 280 = .ok (.if_icmp .ne 7, 3) := by decide +kernel
theorem dL_hangs_283 : decode cL_hangs 283 = .ok (.iconst 1, 1) := by decide +kernel
theorem dL_hangs_284 : decode cL_hangs 284 = .ok (.goto 4, 3) := by decide +kernel
theorem dL_hangs_287 : decode cL_hangs 287 = .ok (.iconst 0, 1) := by decide +kernel
theorem dL_hangs_288 : decode cL_hangs 288 = .ok (.istore_n 2, 1) := by decide +kernel
theorem dL_hangs_289 : decode cL_hangs 289 = .ok (.aload_n 0, 1) := by decide +kernel
theorem dL_hangs_290 : decode cL_hangs 290 = .ok (.iload 4, 2) := by decide +kernel
theorem dL_hangs_292 : decode cL_hangs 292 = .ok (.iload 5, 2) := by decide +kernel
theorem dL_hangs_294 : decode cL_hangs 294 = .ok (.iconst 0, 1) := by decide +kernel
theorem dL_hangs_295 : decode cL_hangs 295 = .ok (.invokestatic 128, 3) := by decide +kernel
theorem dL_hangs_298 : decode cL_hangs 298 = .ok (.istore 9, 2) := by decide +kernel
theorem dL_hangs_300 : decode cL_hangs 300 = .ok (.iload_n 2, 1) := by decide +kernel
theorem dL_hangs_301 : decode cL_hangs 301 = .ok (.ifCond .eq 29, 3) := by decide +kernel
theorem dL_hangs_304 : decode cL_hangs 304 = .ok (.aload_n 0, 1) := by decide +kernel
theorem dL_hangs_305 : decode cL_hangs 305 = .ok (.iconst 3, 1) := by decide +kernel
theorem dL_hangs_306 : decode cL_hangs 306 = .ok (.invokestatic 130, 3) := by decide +kernel
theorem dL_hangs_309 : decode cL_hangs 309 = .ok (.ifCond .eq 17, 3) := by decide +kernel
theorem dL_hangs_312 : decode cL_hangs 312 = .ok (.iload 9, 2) := by decide +kernel
theorem dL_hangs_314 : decode cL_hangs 314 = .ok (.aload_n 0, 1) := by decide +kernel
theorem dL_hangs_315 : decode cL_hangs 315 = .ok (.iload 5, 2) := by decide +kernel
theorem dL_hangs_317 : decode cL_hangs 317 = .ok (.iload 4, 2) := by decide +kernel
theorem dL_hangs_319 : decode cL_hangs 319 = .ok (.iconst 1, 1) := by decide +kernel
theorem dL_hangs_320 : decode cL_hangs 320 = .ok (.invokestatic 128, 3) := by decide +kernel
theorem dL_hangs_323 : decode cL_hangs 323 = .ok (.if_icmp .ne 7, 3) := by decide +kernel
theorem dL_hangs_326 : decode cL_hangs 326 = .ok (.iconst 1, 1) := by decide +kernel
theorem dL_hangs_327 : decode cL_hangs 327 = .ok (.goto 4, 3) := by decide +kernel
theorem dL_hangs_330 : decode cL_hangs 330 = .ok (.iconst 0, 1) := by decide +kernel
theorem dL_hangs_331 : decode cL_hangs 331 = .ok (.istore_n 2, 1) := by decide +kernel
theorem dL_hangs_332 : decode cL_hangs 332 = .ok (.iload_n 2, 1) := by decide +kernel
theorem dL_hangs_333 : decode cL_hangs 333 = .ok (.ifCond .eq 51, 3) := by decide +kernel
theorem dL_hangs_336 : decode cL_hangs 336 = .ok (.iload 6, 2) := by decide +kernel
theorem dL_hangs_338 : decode cL_hangs 338 = .ok (.iconst (-1), 1) := by decide +kernel
theorem dL_hangs_339 : decode cL_hangs 339 = .ok (.if_icmp .eq 41, 3) := by decide +kernel
theorem dL_hangs_342 : decode cL_hangs 342 = .ok (.aload_n 0, 1) := by decide +kernel
theorem dL_hangs_343 : decode cL_hangs 343 = .ok (.iload 4, 2) := by decide +kernel
theorem dL_hangs_345 : decode cL_hangs 345 = .ok (.iload 5, 2) := by decide +kernel
theorem dL_hangs_347 : decode cL_hangs 347 = .ok (.iload 6, 2) := by decide +kernel
theorem dL_hangs_349 : decode cL_hangs 349 = .ok (.aload_n 0, 1) := by decide +kernel
theorem dL_hangs_350 : decode cL_hangs 350 = .ok (.iload 4, 2) := by decide +kernel
theorem dL_hangs_352 : decode cL_hangs 352 = .ok (.iload 5, 2) := by decide +kernel
theorem dL_hangs_354 : decode cL_hangs 354 = .ok (.iconst 1, 1) := by decide +kernel
theorem dL_hangs_355 : decode cL_hangs 355 = .ok (.invokestatic 119, 3) := by decide +kernel
theorem dL_hangs_358 : decode cL_hangs 358 = .ok (.invokestatic 132, 3) := by decide +kernel
theorem dL_hangs_361 : decode cL_hangs 361 = .ok (.ifCond .le 7, 3) := by decide +kernel
theorem dL_hangs_364 : decode cL_hangs 364 = .ok (.iconst 1, 1) := by decide +kernel
theorem dL_hangs_365 : decode cL_hangs 365 = .ok (.goto 4, 3) := by decide +kernel
theorem dL_hangs_368 : decode cL_hangs 368 = .ok (.iconst 0, 1) := by decide +kernel
theorem dL_hangs_369 : decode cL_hangs 369 = .ok (.aload_n 0, 1) := by decide +kernel
theorem dL_hangs_370 : decode cL_hangs 370 = .ok (.iload 4, 2) := by decide +kernel
theorem dL_hangs_372 : decode cL_hangs 372 = .ok (.iload 5, 2) := by decide +kernel
theorem dL_hangs_374 : decode cL_hangs 374 = .ok (.invokestatic 134, 3) := by decide +kernel
theorem dL_hangs_377 : decode cL_hangs 377 = .ok (.if_icmp .ne 7, 3) := by decide +kernel
theorem dL_hangs_380 : decode cL_hangs 380 = .ok (.iconst 1, 1) := by decide +kernel
theorem dL_hangs_381 : decode cL_hangs 381 = .ok (.goto 4, 3) := by decide +kernel
theorem dL_hangs_384 : decode cL_hangs 384 = .ok (.iconst 0, 1) := by decide +kernel
theorem dL_hangs_385 : decode cL_hangs 385 = .ok (.istore_n 2, 1) := by decide +kernel
theorem dL_hangs_386 : decode cL_hangs 386 = .ok (.iinc 3 1, 3) := by decide +kernel
theorem dL_hangs_389 : decode cL_hangs 389 = .ok (.goto (-383), 3) := by decide +kernel
theorem dL_hangs_392 : decode cL_hangs 392 = .ok (.aload_n 0, 1) := by decide +kernel
theorem dL_hangs_393 : decode cL_hangs 393 = .ok (.iconst 1, 1) := by decide +kernel
theorem dL_hangs_394 : decode cL_hangs 394 = .ok (.invokestatic 130, 3) := by decide +kernel
theorem dL_hangs_397 : decode cL_hangs 397 = .ok (.istore_n 3, 1) := by decide +kernel
theorem dL_hangs_398 : decode cL_hangs 398 = .ok (.iconst 0, 1) := by decide +kernel
theorem dL_hangs_399 : decode cL_hangs 399 = .ok (.istore 4, 2) := by decide +kernel
theorem dL_hangs_401 : decode cL_hangs 401 = .ok (.iconst 0, 1) := by decide +kernel
theorem dL_hangs_402 : decode cL_hangs 402 = .ok (.istore 5, 2) := by decide +kernel
theorem dL_hangs_404 : decode cL_hangs 404 = .ok (.iconst 0, 1) := by decide +kernel
theorem dL_hangs_405 : decode cL_hangs 405 = .ok (.istore 6, 2) := by decide +kernel
theorem dL_hangs_407 : decode cL_hangs 407 = .ok (.iconst 1, 1) := by decide +kernel
theorem dL_hangs_408 : decode cL_hangs 408 = .ok (.istore 7, 2) := by decide +kernel
theorem dL_hangs_410 : decode cL_hangs 410 = .ok (.iconst 0, 1) := by decide +kernel
theorem dL_hangs_411 : decode cL_hangs 411 = .ok (.istore 8, 2) := by decide +kernel
theorem dL_hangs_413 : decode cL_hangs 413 = .ok (.iload 8, 2) := by decide +kernel
theorem dL_hangs_415 : decode cL_hangs 415 = .ok (.iload_n 3, 1) := by decide +kernel
theorem dL_hangs_416 : decode cL_hangs 416 = .ok (.if_icmp .ge 166, 3) := by decide +kernel
theorem dL_hangs_419 : decode cL_hangs 419 = .ok (.iload 8, 2) := by decide +kernel
theorem dL_hangs_421 : decode cL_hangs 421 = .ok (.bipush 37, 2) := by decide +kernel
theorem dL_hangs_423 : decode cL_hangs 423 = .ok (.if_icmp .ge 159, 3) := by decide +kernel
theorem dL_hangs_426 : decode cL_hangs 426 = .ok (.iload_n 2, 1) := by decide +kernel
theorem dL_hangs_427 : decode cL_hangs 427 = .ok (.ifCond .eq 155, 3) := by decide +kernel
theorem dL_hangs_430 : decode cL_hangs 430 = .ok (.aload_n 0, 1) := by decide +kernel
theorem dL_hangs_431 : decode cL_hangs 431 = .ok (.iload 8, 2) := by decide +kernel
theorem dL_hangs_433 : decode cL_hangs 433 = .ok (.iconst 0, 1) := by decide +kernel
theorem dL_hangs_434 : decode cL_hangs 434 = .ok (.invokestatic 138, 3) := by decide +kernel
theorem dL_hangs_437 : decode cL_hangs 437 = .ok (.istore 9, 2) := by decide +kernel
theorem dL_hangs_439 : decode cL_hangs 439 = .ok (.aload_n 0, 1) := by decide +kernel
theorem dL_hangs_440 : decode cL_hangs 440 = .ok (.iload 8, 2) := by decide +kernel
theorem dL_hangs_442 : decode cL_hangs 442 = .ok (.iconst 1, 1) := by decide +kernel
theorem dL_hangs_443 : decode cL_hangs 443 = .ok (.invokestatic 138, 3) := by decide +kernel
theorem dL_hangs_446 : decode cL_hangs 446 = .ok (.istore 10, 2) := by decide +kernel
theorem dL_hangs_448 : decode cL_hangs 448 = .ok (.aload_n 0, 1) := by decide +kernel
theorem dL_hangs_449 : decode cL_hangs 449 = .ok (.iload 8, 2) := by decide +kernel
theorem dL_hangs_451 : decode cL_hangs 451 = .ok (.iconst 2, 1) := by decide +kernel
theorem dL_hangs_452 : decode cL_hangs 452 = .ok (.invokestatic 138, 3) := by decide +kernel
theorem dL_hangs_455 : decode cL_hangs 455 = .ok (.ldc 140, 2) := by decide +kernel
theorem dL_hangs_457 : decode cL_hangs 457 = .ok (.isub, 1) := by decide +kernel
theorem dL_hangs_458 : decode cL_hangs 458 = .ok (.istore 11, 2) := by decide +kernel
theorem dL_hangs_460 : decode cL_hangs 460 = .ok (.iload 9, 2) := by decide +kernel
theorem dL_hangs_462 : decode cL_hangs 462 = .ok (.iconst 3, 1) := by decide +kernel
theorem dL_hangs_463 : decode cL_hangs 463 = .ok (.if_icmp .lt 65, 3) := by decide +kernel
theorem dL_hangs_466 : decode cL_hangs 466 = .ok (.iload 9, 2) := by decide +kernel
theorem dL_hangs_468 : decode cL_hangs 468 = .ok (.bipush 6, 2) := by decide +kernel
theorem dL_hangs_470 : decode cL_hangs 470 = .ok (.if_icmp .ge 58, 3) := by decide +kernel
theorem dL_hangs_473 : decode cL_hangs 473 = .ok (.ldc 126, 2) := by decide +kernel
theorem dL_hangs_475 : decode cL_hangs 475 = .ok (.iload 9, 2) := by decide +kernel
theorem dL_hangs_477 : decode cL_hangs 477 = .ok (.imul, 1) := by decide +kernel
theorem dL_hangs_478 : decode cL_hangs 478 = .ok (.iload 10, 2) := by decide +kernel
theorem dL_hangs_480 : decode cL_hangs 480 = .ok (.iadd, 1) := by decide +kernel
theorem dL_hangs_481 : decode cL_hangs 481 = .ok (.iload 5, 2) := by decide +kernel
theorem dL_hangs_483 : decode cL_hangs 483 = .ok (.if_icmp .le 45, 3) := by decide +kernel
theorem dL_hangs_486 : decode cL_hangs 486 = .ok (.aload_n 0, 1) := by decide +kernel
theorem dL_hangs_487 : decode cL_hangs 487 = .ok (.iload 8, 2) := by decide +kernel
theorem dL_hangs_489 : decode cL_hangs 489 = .ok (.iconst 3, 1) := by decide +kernel
theorem dL_hangs_490 : decode cL_hangs 490 = .ok (.invokestatic 138, 3) := by decide +kernel
theorem dL_hangs_493 : decode cL_hangs 493 = .ok (.iload 11, 2) := by decide +kernel
theorem dL_hangs_495 : decode cL_hangs 495 = .ok (.aload_n 0, 1) := by decide +kernel
theorem dL_hangs_496 : decode cL_hangs 496 = .ok (.bipush 9, 2) := by decide +kernel
theorem dL_hangs_498 : decode cL_hangs 498 = .ok (.invokestatic 130, 3) := by decide +kernel
theorem dL_hangs_501 : decode cL_hangs 501 = .ok (.if_icmp .gt 15, 3) := by decide +kernel
theorem dL_hangs_504 : decode cL_hangs 504 = .ok (.iload 11, 2) := by decide +kernel
theorem dL_hangs_506 : decode cL_hangs 506 = .ok (.ineg, 1) := by decide +kernel
theorem dL_hangs_507 : decode cL_hangs 507 = .ok (.aload_n 0, 1) := by decide +kernel
theorem dL_hangs_508 : decode cL_hangs 508 = .ok (.bipush 9, 2) := by decide +kernel
theorem dL_hangs_510 : decode cL_hangs 510 = .ok (.invokestatic 130, 3) := by decide +kernel
theorem dL_hangs_513 : decode cL_hangs 513 = .ok (.if_icmp .le 7, 3) := by decide +kernel
theorem dL_hangs_516 : decode cL_hangs 516 = .ok (.iconst 1, 1) := by decide +kernel
theorem dL_hangs_517 : decode cL_hangs 517 = .ok (.goto 4, 3) := by decide +kernel
theorem dL_hangs_520 : decode cL_hangs 520 = .ok (.iconst 0, 1) := by decide +kernel
theorem dL_hangs_521 : decode cL_hangs 521 = .ok (.if_icmp .ne 7, 3) := by decide +kernel
theorem dL_hangs_524 : decode cL_hangs 524 = .ok (.iconst 1, 1) := by decide +kernel
theorem dL_hangs_525 : decode cL_hangs 525 = .ok (.goto 4, 3) := by decide +kernel
theorem dL_hangs_528 : decode cL_hangs 528 = .ok (.iconst 0, 1) := by decide +kernel
theorem dL_hangs_529 : decode cL_hangs 529 = .ok (.istore_n 2, 1) := by decide +kernel
theorem dL_hangs_530 : decode cL_hangs 530 = .ok (.ldc 126, 2) := by decide +kernel
theorem dL_hangs_532 : decode cL_hangs 532 = .ok (.iload 9, 2) := by decide +kernel
theorem dL_hangs_534 : decode cL_hangs 534 = .ok (.imul, 1) := by decide +kernel
theorem dL_hangs_535 : decode cL_hangs 535 = .ok (.iload 10, 2) := by decide +kernel
theorem dL_hangs_537 : decode cL_hangs 537 = .ok (.iadd, 1) := by decide +kernel
theorem dL_hangs_538 : decode cL_hangs 538 = .ok (.istore 5, 2) := by decide +kernel
theorem dL_hangs_540 : decode cL_hangs 540 = .ok (.iload 4, 2) := by decide +kernel
theorem dL_hangs_542 : decode cL_hangs 542 = .ok (.aload_n 0, 1) := by decide +kernel
theorem dL_hangs_543 : decode cL_hangs 543 = .ok (.iload 8, 2) := by decide +kernel
theorem dL_hangs_545 : decode cL_hangs 545 = .ok (.iconst 3, 1) := by decide +kernel
theorem dL_hangs_546 : decode cL_hangs 546 = .ok (.invokestatic 138, 3) := by decide +kernel
theorem dL_hangs_549 : decode cL_hangs 549 = .ok (.iadd, 1) := by decide +kernel
theorem dL_hangs_550 : decode cL_hangs 550 = .ok (.istore 4, 2) := by decide +kernel
theorem dL_hangs_552 : decode cL_hangs 552 = .ok (.iload 7, 2) := by decide +kernel
theorem dL_hangs_554 : decode cL_hangs 554 = .ok (.ifCond .eq 12, 3) := by decide +kernel
theorem dL_hangs_557 : decode cL_hangs 557 = .ok (.iload 11, 2) := by decide +kernel
theorem dL_hangs_559 : decode cL_hangs 559 = .ok (.ifCond .ne 7, 3) := by decide +kernel
theorem dL_hangs_562 : decode cL_hangs 562 = .ok (.iconst 1, 1) := by decide +kernel
theorem dL_hangs_563 : decode cL_hangs 563 = .ok (.goto 4, 3) := by decide +kernel
theorem dL_hangs_566 : decode cL_hangs 566 = .ok (.iconst 0, 1) := by decide +kernel
theorem dL_hangs_567 : decode cL_hangs 567 = .ok (.istore 7, 2) := by decide +kernel
theorem dL_hangs_569 : decode cL_hangs 569 = .ok (.iload 6, 2) := by decide +kernel
theorem dL_hangs_571 : decode cL_hangs 571 = .ok (.iload 9, 2) := by decide +kernel
theorem dL_hangs_573 : decode cL_hangs 573 = .ok (.iadd, 1) := by decide +kernel
theorem dL_hangs_574 : decode cL_hangs 574 = .ok (.istore 6, 2) := by decide +kernel
theorem dL_hangs_576 : decode cL_hangs 576 = .ok (.iinc 8 1, 3) := by decide +kernel
theorem dL_hangs_579 : decode cL_hangs 579 = .ok (.goto (-166), 3) := by decide +kernel
theorem dL_hangs_582 : decode cL_hangs 582 = .ok (.iconst 0, 1) := by decide +kernel
theorem dL_hangs_583 : decode cL_hangs 583 = .ok (.istore 8, 2) := by decide +kernel
theorem dL_hangs_585 : decode cL_hangs 585 = .ok (.iconst 0, 1) := by decide +kernel
theorem dL_hangs_586 : decode cL_hangs 586 = .ok (.istore 9, 2) := by decide +kernel
theorem dL_hangs_588 : decode cL_hangs 588 = .ok (.iload 9, 2) := by decide +kernel
theorem dL_hangs_590 : decode cL_hangs 590 = .ok (.bipush 25, 2) := by decide +kernel
theorem dL_hangs_592 : decode cL_hangs 592 = .ok (.if_icmp .ge 42, 3) := by decide +kernel
theorem dL_hangs_595 : decode cL_hangs 595 = .ok (.iload 8, 2) := by decide +kernel
theorem dL_hangs_597 : decode cL_hangs 597 = .ok (.iload 9, 2) := by decide +kernel
theorem dL_hangs_599 : decode cL_hangs 599 = .ok (.iconst 5, 1) := by decide +kernel
theorem dL_hangs_600 : decode cL_hangs 600 = .ok (.idiv, 1) := by decide +kernel
theorem dL_hangs_601 : decode cL_hangs 601 = .ok (.iload 9, 2) := by decide +kernel
theorem dL_hangs_603 : decode cL_hangs 603 = .ok (.iconst 5, 1) := by decide +kernel
theorem dL_hangs_604 : decode cL_hangs 604 = .ok (.irem, 1) := by decide +kernel
theorem dL_hangs_605 : decode cL_hangs 605 = .ok (.if_icmp .ne 7, 3) := by decide +kernel
theorem dL_hangs_608 : decode cL_hangs 608 = .ok (.iconst 0, 1) := by decide +kernel
theorem dL_hangs_609 : decode cL_hangs 609 = .ok (.goto 16, 3) := by decide +kernel
theorem dL_hangs_612 : decode cL_hangs 612 = .ok (.aload_n 0, 1) := by decide +kernel
theorem dL_hangs_613 : decode cL_hangs 613 = .ok (.iload 9, 2) := by decide +kernel
theorem dL_hangs_615 : decode cL_hangs 615 = .ok (.iconst 5, 1) := by decide +kernel
theorem dL_hangs_616 : decode cL_hangs 616 = .ok (.idiv, 1) := by decide +kernel
theorem dL_hangs_617 : decode cL_hangs 617 = .ok (.iload 9, 2) := by decide +kernel
theorem dL_hangs_619 : decode cL_hangs 619 = .ok (.iconst 5, 1) := by decide +kernel
theorem dL_hangs_620 : decode cL_hangs 620 = .ok (.irem, 1) := by decide +kernel
theorem dL_hangs_621 : decode cL_hangs 621 = .ok (.iconst 2, 1) := by decide +kernel
theorem dL_hangs_622 : decode cL_hangs 622 = .ok (.invokestatic 119, 3) := by decide +kernel
theorem dL_hangs_625 : decode cL_hangs 625 = .ok (.iadd, 1) := by decide +kernel
theorem dL_hangs_626 : decode cL_hangs 626 = .ok (.istore 8, 2) := by decide +kernel
theorem dL_hangs_628 : decode cL_hangs 628 = .ok (.iinc 9 1, 3) := by decide +kernel
theorem dL_hangs_631 : decode cL_hangs 631 = .ok (.goto (-43), 3) := by decide +kernel
theorem dL_hangs_634 : decode cL_hangs 634 = .ok (.iconst 0, 1) := by decide +kernel
theorem dL_hangs_635 : decode cL_hangs 635 = .ok (.istore 9, 2) := by decide +kernel
theorem dL_hangs_637 : decode cL_hangs 637 = .ok (.iconst 0, 1) := by decide +kernel
theorem dL_hangs_638 : decode cL_hangs 638 = .ok (.istore 10, 2) := by decide +kernel
theorem dL_hangs_640 : decode cL_hangs 640 = .ok (.iload 10, 2) := by decide +kernel
theorem dL_hangs_642 : decode cL_hangs 642 = .ok (.aload_n 0, 1) := by decide +kernel
theorem dL_hangs_643 : decode cL_hangs 643 = .ok (.iconst 5, 1) := by decide +kernel
theorem dL_hangs_644 : decode cL_hangs 644 = .ok (.invokestatic 130, 3) := by decide +kernel
theorem dL_hangs_647 : decode cL_hangs 647 = .ok (.if_icmp .ge 113, 3) := by decide +kernel
theorem dL_hangs_650 : decode cL_hangs 650 = .ok (.iload 10, 2) := by decide +kernel
theorem dL_hangs_652 : decode cL_hangs 652 = .ok (.bipush 8, 2) := by decide +kernel
theorem dL_hangs_654 : decode cL_hangs 654 = .ok (.if_icmp .ge 106, 3) := by decide +kernel
theorem dL_hangs_657 : decode cL_hangs 657 = .ok (.iload_n 2, 1) := by decide +kernel
theorem dL_hangs_658 : decode cL_hangs 658 = .ok (.ifCond .eq 102, 3) := by decide +kernel
theorem dL_hangs_661 : decode cL_hangs 661 = .ok (.iload 9, 2) := by decide +kernel
theorem dL_hangs_663 : decode cL_hangs 663 = .ok (.aload_n 0, 1) := by decide +kernel
theorem dL_hangs_664 : decode cL_hangs 664 = .ok (.iload 10, 2) := by decide +kernel
theorem dL_hangs_666 : decode cL_hangs 666 = .ok (.iconst 1, 1) := by decide +kernel
theorem dL_hangs_667 : decode cL_hangs 667 = .ok (.invokestatic 141, 3) := by decide +kernel
theorem dL_hangs_670 : decode cL_hangs 670 = .ok (.iadd, 1) := by decide +kernel
theorem dL_hangs_671 : decode cL_hangs 671 = .ok (.istore 9, 2) := by decide +kernel
theorem dL_hangs_673 : decode cL_hangs 673 = .ok (.aload_n 0, 1) := by decide +kernel
theorem dL_hangs_674 : decode cL_hangs 674 = .ok (.iload 10, 2) := by decide +kernel
theorem dL_hangs_676 : decode cL_hangs 676 = .ok (.iconst 0, 1) := by decide +kernel
theorem dL_hangs_677 : decode cL_hangs 677 = .ok (.invokestatic 141, 3) := by decide +kernel
theorem dL_hangs_680 : decode cL_hangs 680 = .ok (.ifCond .lt 72, 3) := by decide +kernel
theorem dL_hangs_683 : decode cL_hangs 683 = .ok (.aload_n 0, 1) := by decide +kernel
theorem dL_hangs_684 : decode cL_hangs 684 = .ok (.iload 10, 2) := by decide +kernel
theorem dL_hangs_686 : decode cL_hangs 686 = .ok (.iconst 0, 1) := by decide +kernel
theorem dL_hangs_687 : decode cL_hangs 687 = .ok (.invokestatic 141, 3) := by decide +kernel
theorem dL_hangs_690 : decode cL_hangs 690 = .ok (.iconst 5, 1) := by decide +kernel
theorem dL_hangs_691 : decode cL_hangs 691 = .ok (.if_icmp .ge 61, 3) := by decide +kernel
theorem dL_hangs_694 : decode cL_hangs 694 = .ok (.aload_n 0, 1) := by decide +kernel
theorem dL_hangs_695 : decode cL_hangs 695 = .ok (.iload 10, 2) := by decide +kernel
theorem dL_hangs_697 : decode cL_hangs 697 = .ok (.iconst 1, 1) := by decide +kernel
theorem dL_hangs_698 : decode cL_hangs 698 = .ok (.invokestatic 141, 3) := by decide +kernel
theorem dL_hangs_701 : decode cL_hangs 701 = .ok (.ifCond .lt 51, 3) := by decide +kernel
theorem dL_hangs_704 : decode cL_hangs 704 = .ok (.aload_n 0, 1) := by decide +kernel
theorem dL_hangs_705 : decode cL_hangs 705 = .ok (.iload 10, 2) := by decide +kernel
theorem dL_hangs_707 : decode cL_hangs 707 = .ok (.iconst 1, 1) := by decide +kernel
theorem dL_hangs_708 : decode cL_hangs 708 = .ok (.invokestatic 141, 3) := by decide +kernel
theorem dL_hangs_711 : decode cL_hangs 711 = .ok (.ldc 126, 2) := by decide +kernel
theorem dL_hangs_713 : decode cL_hangs 713 = .ok (.if_icmp .ge 39, 3) := by decide +kernel
theorem dL_hangs_716 : decode cL_hangs 716 = .ok (.aload_n 0, 1) := by decide +kernel
theorem dL_hangs_717 : decode cL_hangs 717 = .ok (.iload 10, 2) := by decide +kernel
theorem dL_hangs_719 : decode cL_hangs 719 = .ok (.iconst 3, 1) := by decide +kernel
theorem dL_hangs_720 : decode cL_hangs 720 = .ok (.invokestatic 141, 3) := by decide +kernel
theorem dL_hangs_723 : decode cL_hangs 723 = .ok (.ifCond .lt 29, 3) := by decide +kernel
theorem dL_hangs_726 : decode cL_hangs 726 = .ok (.aload_n 0, 1) := by decide +kernel
theorem dL_hangs_727 : decode cL_hangs 727 = .ok (.iload 10, 2) := by decide +kernel
theorem dL_hangs_729 : decode cL_hangs 729 = .ok (.iconst 3, 1) := by decide +kernel
theorem dL_hangs_730 : decode cL_hangs 730 = .ok (.invokestatic 141, 3) := by decide +kernel
theorem dL_hangs_733 : decode cL_hangs 733 = .ok (.ifCond .gt 15, 3) := by decide +kernel
theorem dL_hangs_736 : decode cL_hangs 736 = .ok (.aload_n 0, 1) := by decide +kernel
theorem dL_hangs_737 : decode cL_hangs 737 = .ok (.iload 10, 2) := by decide +kernel
theorem dL_hangs_739 : decode cL_hangs 739 = .ok (.iconst 2, 1) := by decide +kernel
theorem dL_hangs_740 : decode cL_hangs 740 = .ok (.invokestatic 141, 3) := by decide +kernel
theorem dL_hangs_743 : decode cL_hangs 743 = .ok (.ldc 140, 2) := by decide +kernel
theorem dL_hangs_745 : decode cL_hangs 745 = .ok (.if_icmp .ne 7, 3) := by decide +kernel
theorem dL_hangs_748 : decode cL_hangs 748 = .ok (.iconst 1, 1) := by decide +kernel
theorem dL_hangs_749 : decode cL_hangs 749 = .ok (.goto 4, 3) := by decide +kernel
theorem dL_hangs_752 : decode cL_hangs 752 = .ok (.iconst 0, 1) := by decide +kernel
theorem dL_hangs_753 : decode cL_hangs 753 = .ok (.istore_n 2, 1) := by decide +kernel
theorem dL_hangs_754 : decode cL_hangs 754 = .ok (.iinc 10 1, 3) := by decide +kernel
theorem dL_hangs_757 : decode cL_hangs 757 = .ok (.goto (-117), 3) := by decide +kernel
theorem dL_hangs_760 : decode cL_hangs 760 = .ok (.aload_n 0, 1) := by decide +kernel
theorem dL_hangs_761 : decode cL_hangs 761 = .ok (.iconst 0, 1) := by decide +kernel
theorem dL_hangs_762 : decode cL_hangs 762 = .ok (.invokestatic 143, 3) := by decide +kernel
theorem dL_hangs_765 : decode cL_hangs 765 = .ok (.istore 10, 2) := by decide +kernel
theorem dL_hangs_767 : decode cL_hangs 767 = .ok (.aload_n 0, 1) := by decide +kernel
theorem dL_hangs_768 : decode cL_hangs 768 = .ok (.iconst 1, 1) := by decide +kernel
theorem dL_hangs_769 : decode cL_hangs 769 = .ok (.invokestatic 143, 3) := by decide +kernel
theorem dL_hangs_772 : decode cL_hangs 772 = .ok (.istore 11, 2) := by decide +kernel
theorem dL_hangs_774 : decode cL_hangs 774 = .ok (.iload_n 2, 1) := by decide +kernel
theorem dL_hangs_775 : decode cL_hangs 775 = .ok (.ifCond .eq 177, 3) := by decide +kernel
theorem dL_hangs_778 : decode cL_hangs 778 = .ok (.iload_n 1, 1) := by decide +kernel
theorem dL_hangs_779 : decode cL_hangs 779 = .ok (.aload_n 0, 1) := by decide +kernel
theorem dL_hangs_780 : decode cL_hangs 780 = .ok (.iconst 0, 1) := by decide +kernel
theorem dL_hangs_781 : decode cL_hangs 781 = .ok (.invokestatic 130, 3) := by decide +kernel
theorem dL_hangs_784 : decode cL_hangs 784 = .ok (.if_icmp .ne 168, 3) := by decide +kernel
theorem dL_hangs_787 : decode cL_hangs 787 = .ok (.iload_n 3, 1) := by decide +kernel
theorem dL_hangs_788 : decode cL_hangs 788 = .ok (.ifCond .lt 164, 3) := by decide +kernel
theorem dL_hangs_791 : decode cL_hangs 791 = .ok (.iload_n 3, 1) := by decide +kernel
theorem dL_hangs_792 : decode cL_hangs 792 = .ok (.bipush 37, 2) := by decide +kernel
theorem dL_hangs_794 : decode cL_hangs 794 = .ok (.if_icmp .gt 158, 3) := by decide +kernel
theorem dL_hangs_797 : decode cL_hangs 797 = .ok (.aload_n 0, 1) := by decide +kernel
theorem dL_hangs_798 : decode cL_hangs 798 = .ok (.iload_n 3, 1) := by decide +kernel
theorem dL_hangs_799 : decode cL_hangs 799 = .ok (.iconst 0, 1) := by decide +kernel
theorem dL_hangs_800 : decode cL_hangs 800 = .ok (.invokestatic 138, 3) := by decide +kernel
theorem dL_hangs_803 : decode cL_hangs 803 = .ok (.iconst (-1), 1) := by decide +kernel
theorem dL_hangs_804 : decode cL_hangs 804 = .ok (.if_icmp .ne 148, 3) := by decide +kernel
theorem dL_hangs_807 : decode cL_hangs 807 = .ok (.iload 4, 2) := by decide +kernel
theorem dL_hangs_809 : decode cL_hangs 809 = .ok (.aload_n 0, 1) := by decide +kernel
theorem dL_hangs_810 : decode cL_hangs 810 = .ok (.iconst 2, 1) := by decide +kernel
theorem dL_hangs_811 : decode cL_hangs 811 = .ok (.invokestatic 130, 3) := by decide +kernel
theorem dL_hangs_814 : decode cL_hangs 814 = .ok (.if_icmp .ne 138, 3) := by decide +kernel
theorem dL_hangs_817 : decode cL_hangs 817 = .ok (.iload 8, 2) := by decide +kernel
theorem dL_hangs_819 : decode cL_hangs 819 = .ok (.iconst 2, 1) := by decide +kernel
theorem dL_hangs_820 : decode cL_hangs 820 = .ok (.iload 6, 2) := by decide +kernel
theorem dL_hangs_822 : decode cL_hangs 822 = .ok (.imul, 1) := by decide +kernel
theorem dL_hangs_823 : decode cL_hangs 823 = .ok (.if_icmp .ne 129, 3) := by decide +kernel
theorem dL_hangs_826 : decode cL_hangs 826 = .ok (.aload_n 0, 1) := by decide +kernel
theorem dL_hangs_827 : decode cL_hangs 827 = .ok (.iconst 3, 1) := by decide +kernel
theorem dL_hangs_828 : decode cL_hangs 828 = .ok (.invokestatic 130, 3) := by decide +kernel
theorem dL_hangs_831 : decode cL_hangs 831 = .ok (.ifCond .eq 8, 3) := by decide +kernel
theorem dL_hangs_834 : decode cL_hangs 834 = .ok (.iload 7, 2) := by decide +kernel
theorem dL_hangs_836 : decode cL_hangs 836 = .ok (.ifCond .eq 116, 3) := by decide +kernel
theorem dL_hangs_839 : decode cL_hangs 839 = .ok (.aload_n 0, 1) := by decide +kernel
theorem dL_hangs_840 : decode cL_hangs 840 = .ok (.iconst 3, 1) := by decide +kernel
theorem dL_hangs_841 : decode cL_hangs 841 = .ok (.invokestatic 130, 3) := by decide +kernel
theorem dL_hangs_844 : decode cL_hangs 844 = .ok (.aload_n 0, 1) := by decide +kernel
theorem dL_hangs_845 : decode cL_hangs 845 = .ok (.iconst 4, 1) := by decide +kernel
theorem dL_hangs_846 : decode cL_hangs 846 = .ok (.invokestatic 130, 3) := by decide +kernel
theorem dL_hangs_849 : decode cL_hangs 849 = .ok (.if_icmp .ne 103, 3) := by decide +kernel
theorem dL_hangs_852 : decode cL_hangs 852 = .ok (.iload 9, 2) := by decide +kernel
theorem dL_hangs_854 : decode cL_hangs 854 = .ok (.aload_n 0, 1) := by decide +kernel
theorem dL_hangs_855 : decode cL_hangs 855 = .ok (.bipush 6, 2) := by decide +kernel
theorem dL_hangs_857 : decode cL_hangs 857 = .ok (.invokestatic 130, 3) := by decide +kernel
theorem dL_hangs_860 : decode cL_hangs 860 = .ok (.if_icmp .ne 92, 3) := by decide +kernel
theorem dL_hangs_863 : decode cL_hangs 863 = .ok (.aload_n 0, 1) := by decide +kernel
theorem dL_hangs_864 : decode cL_hangs 864 = .ok (.iconst 5, 1) := by decide +kernel
theorem dL_hangs_865 : decode cL_hangs 865 = .ok (.invokestatic 130, 3) := by decide +kernel
theorem dL_hangs_868 : decode cL_hangs 868 = .ok (.ifCond .lt 84, 3) := by decide +kernel
theorem dL_hangs_871 : decode cL_hangs 871 = .ok (.aload_n 0, 1) := by decide +kernel
theorem dL_hangs_872 : decode cL_hangs 872 = .ok (.iconst 5, 1) := by decide +kernel
theorem dL_hangs_873 : decode cL_hangs 873 = .ok (.invokestatic 130, 3) := by decide +kernel
theorem dL_hangs_876 : decode cL_hangs 876 = .ok (.bipush 9, 2) := by decide +kernel
theorem dL_hangs_878 : decode cL_hangs 878 = .ok (.if_icmp .ge 74, 3) := by decide +kernel
theorem dL_hangs_881 : decode cL_hangs 881 = .ok (.iload 10, 2) := by decide +kernel
theorem dL_hangs_883 : decode cL_hangs 883 = .ok (.iconst (-1), 1) := by decide +kernel
theorem dL_hangs_884 : decode cL_hangs 884 = .ok (.if_icmp .ne 7, 3) := by decide +kernel
theorem dL_hangs_887 : decode cL_hangs 887 = .ok (.iconst 1, 1) := by decide +kernel
theorem dL_hangs_888 : decode cL_hangs 888 = .ok (.goto 4, 3) := by decide +kernel
theorem dL_hangs_891 : decode cL_hangs 891 = .ok (.iconst 0, 1) := by decide +kernel
theorem dL_hangs_892 : decode cL_hangs 892 = .ok (.iload 11, 2) := by decide +kernel
theorem dL_hangs_894 : decode cL_hangs 894 = .ok (.iconst (-1), 1) := by decide +kernel
theorem dL_hangs_895 : decode cL_hangs 895 = .ok (.if_icmp .ne 7, 3) := by decide +kernel
theorem dL_hangs_898 : decode cL_hangs 898 = .ok (.iconst 1, 1) := by decide +kernel
theorem dL_hangs_899 : decode cL_hangs 899 = .ok (.goto 4, 3) := by decide +kernel
theorem dL_hangs_902 : decode cL_hangs 902 = .ok (.iconst 0, 1) := by decide +kernel
theorem dL_hangs_903 : decode cL_hangs 903 = .ok (.if_icmp .ne 49, 3) := by decide +kernel
theorem dL_hangs_906 : decode cL_hangs 906 = .ok (.iload 11, 2) := by decide +kernel
theorem dL_hangs_908 : decode cL_hangs 908 = .ok (.iconst (-1), 1) := by decide +kernel
theorem dL_hangs_909 : decode cL_hangs 909 = .ok (.if_icmp .eq 15, 3) := by decide +kernel
theorem dL_hangs_912 : decode cL_hangs 912 = .ok (.iload 11, 2) := by decide +kernel
theorem dL_hangs_914 : decode cL_hangs 914 = .ok (.ifCond .le 38, 3) := by decide +kernel
theorem dL_hangs_917 : decode cL_hangs 917 = .ok (.iload 11, 2) := by decide +kernel
theorem dL_hangs_919 : decode cL_hangs 919 = .ok (.bipush 9, 2) := by decide +kernel
theorem dL_hangs_921 : decode cL_hangs 921 = .ok (.if_icmp .ge 31, 3) := by decide +kernel
theorem dL_hangs_924 : decode cL_hangs 924 = .ok (.aload_n 0, 1) := by decide +kernel
theorem dL_hangs_925 : decode cL_hangs 925 = .ok (.invokevirtual 145, 3) := by decide +kernel
theorem dL_hangs_928 : decode cL_hangs 928 = .ok (.iload_n 3, 1) := by decide +kernel
theorem dL_hangs_929 : decode cL_hangs 929 = .ok (.ifCond .ne 7, 3) := by decide +kernel
theorem dL_hangs_932 : decode cL_hangs 932 = .ok (.dconst 1, 1) := by decide +kernel
theorem dL_hangs_933 : decode cL_hangs 933 = .ok (.goto 11, 3) := by decide +kernel
theorem dL_hangs_936 : decode cL_hangs 936 = .ok (.iload_n 3, 1) := by decide +kernel
theorem dL_hangs_937 : decode cL_hangs 937 = .ok (.iload 4, 2) := by decide +kernel
theorem dL_hangs_939 : decode cL_hangs 939 = .ok (.isub, 1) := by decide +kernel
theorem dL_hangs_940 : decode cL_hangs 940 = .ok (.i2d, 1) := by decide +kernel
theorem dL_hangs_941 : decode cL_hangs 941 = .ok (.iload_n 3, 1) := by decide +kernel
theorem dL_hangs_942 : decode cL_hangs 942 = .ok (.i2d, 1) := by decide +kernel
theorem dL_hangs_943 : decode cL_hangs 943 = .ok (.ddiv, 1) := by decide +kernel
theorem dL_hangs_944 : decode cL_hangs 944 = .ok (.dcmp .l, 1) := by decide +kernel
theorem dL_hangs_945 : decode cL_hangs 945 = .ok (.ifCond .ne 7, 3) := by decide +kernel
theorem dL_hangs_948 : decode cL_hangs 948 = .ok (.iconst 1, 1) := by decide +kernel
theorem dL_hangs_949 : decode cL_hangs 949 = .ok (.goto 4, 3) := by decide +kernel
theorem dL_hangs_952 : decode cL_hangs 952 = .ok (.iconst 0, 1) := by decide +kernel
theorem dL_hangs_953 : decode cL_hangs 953 = .ok (.ireturn, 1) := by decide +kernel
theorem dL_isOffWith_0 : decode cL_isOffWith 0 = .ok (.iconst 0, 1) := by decide +kernel
theorem dL_isOffWith_1 : decode cL_isOffWith 1 = .ok (.istore_n 3, 1) := by decide +kernel
theorem dL_isOffWith_2 : decode cL_isOffWith 2 = .ok (.iconst 0, 1) := by decide +kernel
theorem dL_isOffWith_3 : decode cL_isOffWith 3 = .ok (.istore 4, 2) := by decide +kernel
theorem dL_isOffWith_5 : decode cL_isOffWith 5 = .ok (.iload 4, 2) := by decide +kernel
theorem dL_isOffWith_7 : decode cL_isOffWith 7 = .ok (.aload_n 0, 1) := by decide +kernel
theorem dL_isOffWith_8 : decode cL_isOffWith 8 = .ok (.iconst 1, 1) := by decide +kernel
theorem dL_isOffWith_9 : decode cL_isOffWith 9 = .ok (.invokestatic 130, 3) := by decide +kernel
theorem dL_isOffWith_12 : decode cL_isOffWith 12 = .ok (.if_icmp .ge 156, 3) := by decide +kernel
theorem dL_isOffWith_15 : decode cL_isOffWith 15 = .ok (.iload 4, 2) := by decide +kernel
theorem dL_isOffWith_17 : decode cL_isOffWith 17 = .ok (.bipush 37, 2) := by decide +kernel
theorem dL_isOffWith_19 : decode cL_isOffWith 19 = .ok (.if_icmp .ge 149, 3) := by decide +kernel
theorem dL_isOffWith_22 : decode cL_isOffWith 22 = .ok (.aload_n 0, 1) := by decide +kernel
theorem dL_isOffWith_23 : decode cL_isOffWith 23 = .ok (.iload 4, 2) := by decide +kernel
theorem dL_isOffWith_25 : decode cL_isOffWith 25 = .ok (.iconst 0, 1) := by decide +kernel
theorem dL_isOffWith_26 : decode cL_isOffWith 26 = .ok (.invokestatic 138, 3) := by decide +kernel
theorem dL_isOffWith_29 : decode cL_isOffWith 29 = .ok (.istore 5, 2) := by decide +kernel
theorem dL_isOffWith_31 : decode cL_isOffWith 31 = .ok (.aload_n 0, 1) := by decide +kernel
theorem dL_isOffWith_32 : decode cL_isOffWith 32 = .ok (.iload 4, 2) := by decide +kernel
theorem dL_isOffWith_34 : decode cL_isOffWith 34 = .ok (.iconst 1, 1) := by decide +kernel
theorem dL_isOffWith_35 : decode cL_isOffWith 35 = .ok (.invokestatic 138, 3) := by decide +kernel
theorem dL_isOffWith_38 : decode cL_isOffWith 38 = .ok (.istore 6, 2) := by decide +kernel
theorem dL_isOffWith_40 : decode cL_isOffWith 40 = .ok (.iload 6, 2) := by decide +kernel
theorem dL_isOffWith_42 : decode cL_isOffWith 42 = .ok (.istore 7, 2) := by decide +kernel
theorem dL_isOffWith_44 : decode cL_isOffWith 44 = .ok (.iconst 1, 1) := by decide +kernel
theorem dL_isOffWith_45 : decode cL_isOffWith 45 = .ok (.istore 8, 2) := by decide +kernel
theorem dL_isOffWith_47 : decode cL_isOffWith 47 = .ok (.iload 8, 2) := by decide +kernel
theorem dL_isOffWith_49 : decode cL_isOffWith 49 = .ok (.iload 5, 2) := by decide +kernel
theorem dL_isOffWith_51 : decode cL_isOffWith 51 = .ok (.if_icmp .ge 22, 3) := by decide +kernel
theorem dL_isOffWith_54 : decode cL_isOffWith 54 = .ok (.iload 8, 2) := by decide +kernel
theorem dL_isOffWith_56 : decode cL_isOffWith 56 = .ok (.iconst 5, 1) := by decide +kernel
theorem dL_isOffWith_57 : decode cL_isOffWith 57 = .ok (.if_icmp .ge 16, 3) := by decide +kernel
theorem dL_isOffWith_60 : decode cL_isOffWith 60 = .ok (.iload 7, 2) := by decide +kernel
theorem dL_isOffWith_62 : decode cL_isOffWith 62 = .ok (.bipush 10, 2) := by decide +kernel
theorem dL_isOffWith_64 : decode cL_isOffWith 64 = .ok (.idiv, 1) := by decide +kernel
theorem dL_isOffWith_65 : decode cL_isOffWith 65 = .ok (.istore 7, 2) := by decide +kernel
theorem dL_isOffWith_67 : decode cL_isOffWith 67 = .ok (.iinc 8 1, 3) := by decide +kernel
theorem dL_isOffWith_70 : decode cL_isOffWith 70 = .ok (.goto (-23), 3) := by decide +kernel
theorem dL_isOffWith_73 : decode cL_isOffWith 73 = .ok (.iload 7, 2) := by decide +kernel
theorem dL_isOffWith_75 : decode cL_isOffWith 75 = .ok (.istore 8, 2) := by decide +kernel
theorem dL_isOffWith_77 : decode cL_isOffWith 77 = .ok (.iconst 0, 1) := by decide +kernel
theorem dL_isOffWith_78 : decode cL_isOffWith 78 = .ok (.istore 9, 2) := by decide +kernel
theorem dL_isOffWith_80 : decode cL_isOffWith 80 = .ok (.iload 9, 2) := by decide +kernel
theorem dL_isOffWith_82 : decode cL_isOffWith 82 = .ok (.iload 5, 2) := by decide +kernel
theorem dL_isOffWith_84 : decode cL_isOffWith 84 = .ok (.if_icmp .ge 78, 3) := by decide +kernel
theorem dL_isOffWith_87 : decode cL_isOffWith 87 = .ok (.iload 9, 2) := by decide +kernel
theorem dL_isOffWith_89 : decode cL_isOffWith 89 = .ok (.iconst 5, 1) := by decide +kernel
theorem dL_isOffWith_90 : decode cL_isOffWith 90 = .ok (.if_icmp .ge 72, 3) := by decide +kernel
theorem dL_isOffWith_93 : decode cL_isOffWith 93 = .ok (.iload 6, 2) := by decide +kernel
theorem dL_isOffWith_95 : decode cL_isOffWith 95 = .ok (.bipush 10, 2) := by decide +kernel
theorem dL_isOffWith_97 : decode cL_isOffWith 97 = .ok (.irem, 1) := by decide +kernel
theorem dL_isOffWith_98 : decode cL_isOffWith 98 = .ok (.istore 10, 2) := by decide +kernel
theorem dL_isOffWith_100 : decode cL_isOffWith 100 = .ok (.iload_n 3, 1) := by decide +kernel
theorem dL_isOffWith_101 : decode cL_isOffWith 101 = .ok (.ifCond .ne 38, 3) := by decide +kernel
theorem dL_isOffWith_104 : decode cL_isOffWith 104 = .ok (.aload_n 0, 1) := by decide +kernel
theorem dL_isOffWith_105 : decode cL_isOffWith 105 = .ok (.iload 4, 2) := by decide +kernel
theorem dL_isOffWith_107 : decode cL_isOffWith 107 = .ok (.iconst 3, 1) := by decide +kernel
theorem dL_isOffWith_108 : decode cL_isOffWith 108 = .ok (.invokestatic 138, 3) := by decide +kernel
theorem dL_isOffWith_111 : decode cL_isOffWith 111 = .ok (.iconst 1, 1) := by decide +kernel
theorem dL_isOffWith_112 : decode cL_isOffWith 112 = .ok (.if_icmp .ne 31, 3) := by decide +kernel
theorem dL_isOffWith_115 : decode cL_isOffWith 115 = .ok (.iload 10, 2) := by decide +kernel
theorem dL_isOffWith_117 : decode cL_isOffWith 117 = .ok (.iload_n 1, 1) := by decide +kernel
theorem dL_isOffWith_118 : decode cL_isOffWith 118 = .ok (.if_icmp .ne 9, 3) := by decide +kernel
theorem dL_isOffWith_121 : decode cL_isOffWith 121 = .ok (.iload 8, 2) := by decide +kernel
theorem dL_isOffWith_123 : decode cL_isOffWith 123 = .ok (.iload_n 2, 1) := by decide +kernel
theorem dL_isOffWith_124 : decode cL_isOffWith 124 = .ok (.if_icmp .eq 15, 3) := by decide +kernel
theorem dL_isOffWith_127 : decode cL_isOffWith 127 = .ok (.iload 10, 2) := by decide +kernel
theorem dL_isOffWith_129 : decode cL_isOffWith 129 = .ok (.iload_n 2, 1) := by decide +kernel
theorem dL_isOffWith_130 : decode cL_isOffWith 130 = .ok (.if_icmp .ne 13, 3) := by decide +kernel
theorem dL_isOffWith_133 : decode cL_isOffWith 133 = .ok (.iload 8, 2) := by decide +kernel
theorem dL_isOffWith_135 : decode cL_isOffWith 135 = .ok (.iload_n 1, 1) := by decide +kernel
theorem dL_isOffWith_136 : decode cL_isOffWith 136 = .ok (.if_icmp .ne 7, 3) := by decide +kernel
theorem dL_isOffWith_139 : decode cL_isOffWith 139 = .ok (.iconst 1, 1) := by decide +kernel
theorem dL_isOffWith_140 : decode cL_isOffWith 140 = .ok (.goto 4, 3) := by decide +kernel
theorem dL_isOffWith_143 : decode cL_isOffWith 143 = .ok (.iconst 0, 1) := by decide +kernel
theorem dL_isOffWith_144 : decode cL_isOffWith 144 = .ok (.istore_n 3, 1) := by decide +kernel
theorem dL_isOffWith_145 : decode cL_isOffWith 145 = .ok (.iload 10, 2) := by decide +kernel
theorem dL_isOffWith_147 : decode cL_isOffWith 147 = .ok (.istore 8, 2) := by decide +kernel
theorem dL_isOffWith_149 : decode cL_isOffWith 149 = .ok (.iload 6, 2) := by decide +kernel
theorem dL_isOffWith_151 : decode cL_isOffWith 151 = .ok (.bipush 10, 2) := by decide +kernel
theorem dL_isOffWith_153 : decode cL_isOffWith 153 = .ok (.idiv, 1) := by decide +kernel
theorem dL_isOffWith_154 : decode cL_isOffWith 154 = .ok (.istore 6, 2) := by decide +kernel
theorem dL_isOffWith_156 : decode cL_isOffWith 156 = .ok (.iinc 9 1, 3) := by decide +kernel
theorem dL_isOffWith_159 : decode cL_isOffWith 159 = .ok (.goto (-79), 3) := by decide +kernel
theorem dL_isOffWith_162 : decode cL_isOffWith 162 = .ok (.iinc 4 1, 3) := by decide +kernel
theorem dL_isOffWith_165 : decode cL_isOffWith 165 = .ok (.goto (-160), 3) := by decide +kernel
theorem dL_isOffWith_168 : decode cL_isOffWith 168 = .ok (.iload_n 3, 1) := by decide +kernel
theorem dL_isOffWith_169 : decode cL_isOffWith 169 = .ok (.ireturn, 1) := by decide +kernel
theorem dL_refuses_0 : decode cL_refuses 0 = .ok (.iload_n 1, 1) := by decide +kernel
theorem dL_refuses_1 : decode cL_refuses 1 = .ok (.iconst 2, 1) := by decide +kernel
theorem dL_refuses_2 : decode cL_refuses 2 = .ok (.irem, 1) := by decide +kernel
theorem dL_refuses_3 : decode cL_refuses 3 = .ok (.ifCond .ne 9, 3) := by decide +kernel
theorem dL_refuses_6 : decode cL_refuses 6 = .ok (.iconst 5, 1) := by decide +kernel
theorem dL_refuses_7 : decode cL_refuses 7 = .ok (.iload_n 1, 1) := by decide +kernel
theorem dL_refuses_8 : decode cL_refuses 8 = .ok (.iadd, 1) := by decide +kernel
theorem dL_refuses_9 : decode cL_refuses 9 = .ok (.goto 6, 3) := by decide +kernel
theorem dL_refuses_12 : decode cL_refuses 12 = .ok (.iconst (-1), 1) := by decide +kernel
theorem dL_refuses_13 : decode cL_refuses 13 = .ok (.iload_n 1, 1) := by decide +kernel
theorem dL_refuses_14 : decode cL_refuses 14 = .ok (.isub, 1) := by decide +kernel
theorem dL_refuses_15 : decode cL_refuses 15 = .ok (.istore_n 2, 1) := by decide +kernel
theorem dL_refuses_16 : decode cL_refuses 16 = .ok (.iload_n 1, 1) := by decide +kernel
theorem dL_refuses_17 : decode cL_refuses 17 = .ok (.iconst 2, 1) := by decide +kernel
theorem dL_refuses_18 : decode cL_refuses 18 = .ok (.irem, 1) := by decide +kernel
theorem dL_refuses_19 : decode cL_refuses 19 = .ok (.ifCond .ne 13, 3) := by decide +kernel
theorem dL_refuses_22 : decode cL_refuses 22 = .ok (.aload_n 0, 1) := by decide +kernel
theorem dL_refuses_23 : decode cL_refuses 23 = .ok (.iconst 5, 1) := by decide +kernel
theorem dL_refuses_24 : decode cL_refuses 24 = .ok (.invokestatic 130, 3) := by decide +kernel
theorem dL_refuses_27 : decode cL_refuses 27 = .ok (.iload_n 1, 1) := by decide +kernel
theorem dL_refuses_28 : decode cL_refuses 28 = .ok (.iadd, 1) := by decide +kernel
theorem dL_refuses_29 : decode cL_refuses 29 = .ok (.goto 6, 3) := by decide +kernel
theorem dL_refuses_32 : decode cL_refuses 32 = .ok (.iconst (-1), 1) := by decide +kernel
theorem dL_refuses_33 : decode cL_refuses 33 = .ok (.iload_n 1, 1) := by decide +kernel
theorem dL_refuses_34 : decode cL_refuses 34 = .ok (.isub, 1) := by decide +kernel
theorem dL_refuses_35 : decode cL_refuses 35 = .ok (.istore_n 3, 1) := by decide +kernel
theorem dL_refuses_36 : decode cL_refuses 36 = .ok (.aload_n 0, 1) := by decide +kernel
theorem dL_refuses_37 : decode cL_refuses 37 = .ok (.iload_n 2, 1) := by decide +kernel
theorem dL_refuses_38 : decode cL_refuses 38 = .ok (.iconst 0, 1) := by decide +kernel
theorem dL_refuses_39 : decode cL_refuses 39 = .ok (.invokestatic 92, 3) := by decide +kernel
theorem dL_refuses_42 : decode cL_refuses 42 = .ok (.bipush (-3), 2) := by decide +kernel
theorem dL_refuses_44 : decode cL_refuses 44 = .ok (.if_icmp .ne 431, 3) := by decide +kernel
theorem dL_refuses_47 : decode cL_refuses 47 = .ok (.aload_n 0, 1) := by decide +kernel
theorem dL_refuses_48 : decode cL_refuses 48 = .ok (.iconst 0, 1) := by decide +kernel
theorem dL_refuses_49 : decode cL_refuses 49 = .ok (.bipush 61, 2) := by decide +kernel
theorem dL_refuses_51 : decode cL_refuses 51 = .ok (.iload_n 1, 1) := by decide +kernel
theorem dL_refuses_52 : decode cL_refuses 52 = .ok (.iadd, 1) := by decide +kernel
theorem dL_refuses_53 : decode cL_refuses 53 = .ok (.invokestatic 92, 3) := by decide +kernel
theorem dL_refuses_56 : decode cL_refuses 56 = .ok (.bipush (-2), 2) := by decide +kernel
theorem dL_refuses_58 : decode cL_refuses 58 = .ok (.if_icmp .ne 417, 3) := by decide +kernel
theorem dL_refuses_61 : decode cL_refuses 61 = .ok (.aload_n 0, 1) := by decide +kernel
theorem dL_refuses_62 : decode cL_refuses 62 = .ok (.iload_n 2, 1) := by decide +kernel
theorem dL_refuses_63 : decode cL_refuses 63 = .ok (.iconst 0, 1) := by decide +kernel
theorem dL_refuses_64 : decode cL_refuses 64 = .ok (.iconst 0, 1) := by decide +kernel
theorem dL_refuses_65 : decode cL_refuses 65 = .ok (.iconst 0, 1) := by decide +kernel
theorem dL_refuses_66 : decode cL_refuses 66 = .ok (.invokestatic 82, 3) := by decide +kernel
theorem dL_refuses_69 : decode cL_refuses 69 = .ok (.bipush (-3), 2) := by decide +kernel
theorem dL_refuses_71 : decode cL_refuses 71 = .ok (.if_icmp .ne 404, 3) := by decide +kernel
theorem dL_refuses_74 : decode cL_refuses 74 = .ok (.aload_n 0, 1) := by decide +kernel
theorem dL_refuses_75 : decode cL_refuses 75 = .ok (.iconst 0, 1) := by decide +kernel
theorem dL_refuses_76 : decode cL_refuses 76 = .ok (.iload_n 2, 1) := by decide +kernel
theorem dL_refuses_77 : decode cL_refuses 77 = .ok (.iconst 1, 1) := by decide +kernel
theorem dL_refuses_78 : decode cL_refuses 78 = .ok (.iconst 1, 1) := by decide +kernel
theorem dL_refuses_79 : decode cL_refuses 79 = .ok (.invokestatic 82, 3) := by decide +kernel
theorem dL_refuses_82 : decode cL_refuses 82 = .ok (.bipush (-3), 2) := by decide +kernel
theorem dL_refuses_84 : decode cL_refuses 84 = .ok (.if_icmp .ne 391, 3) := by decide +kernel
theorem dL_refuses_87 : decode cL_refuses 87 = .ok (.aload_n 0, 1) := by decide +kernel
theorem dL_refuses_88 : decode cL_refuses 88 = .ok (.iconst 2, 1) := by decide +kernel
theorem dL_refuses_89 : decode cL_refuses 89 = .ok (.iconst 2, 1) := by decide +kernel
theorem dL_refuses_90 : decode cL_refuses 90 = .ok (.iconst 1, 1) := by decide +kernel
theorem dL_refuses_91 : decode cL_refuses 91 = .ok (.iconst 1, 1) := by decide +kernel
theorem dL_refuses_92 : decode cL_refuses 92 = .ok (.invokestatic 82, 3) := by decide +kernel
theorem dL_refuses_95 : decode cL_refuses 95 = .ok (.bipush (-2), 2) := by decide +kernel
theorem dL_refuses_97 : decode cL_refuses 97 = .ok (.if_icmp .ne 378, 3) := by decide +kernel
theorem dL_refuses_100 : decode cL_refuses 100 = .ok (.aload_n 0, 1) := by decide +kernel
theorem dL_refuses_101 : decode cL_refuses 101 = .ok (.iconst 0, 1) := by decide +kernel
theorem dL_refuses_102 : decode cL_refuses 102 = .ok (.iconst 1, 1) := by decide +kernel
theorem dL_refuses_103 : decode cL_refuses 103 = .ok (.bipush 100, 2) := by decide +kernel
theorem dL_refuses_105 : decode cL_refuses 105 = .ok (.iload_n 1, 1) := by decide +kernel
theorem dL_refuses_106 : decode cL_refuses 106 = .ok (.iadd, 1) := by decide +kernel
theorem dL_refuses_107 : decode cL_refuses 107 = .ok (.iconst 1, 1) := by decide +kernel
theorem dL_refuses_108 : decode cL_refuses 108 = .ok (.invokestatic 82, 3) := by decide +kernel
theorem dL_refuses_111 : decode cL_refuses 111 = .ok (.bipush (-2), 2) := by decide +kernel
theorem dL_refuses_113 : decode cL_refuses 113 = .ok (.if_icmp .ne 362, 3) := by decide +kernel
theorem dL_refuses_116 : decode cL_refuses 116 = .ok (.aload_n 0, 1) := by decide +kernel
theorem dL_refuses_117 : decode cL_refuses 117 = .ok (.iconst 0, 1) := by decide +kernel
theorem dL_refuses_118 : decode cL_refuses 118 = .ok (.iconst 1, 1) := by decide +kernel
theorem dL_refuses_119 : decode cL_refuses 119 = .ok (.iconst 1, 1) := by decide +kernel
theorem dL_refuses_120 : decode cL_refuses 120 = .ok (.iload_n 1, 1) := by decide +kernel
theorem dL_refuses_121 : decode cL_refuses 121 = .ok (.ineg, 1) := by decide +kernel
theorem dL_refuses_122 : decode cL_refuses 122 = .ok (.invokestatic 82, 3) := by decide +kernel
theorem dL_refuses_125 : decode cL_refuses 125 = .ok (.bipush (-2), 2) := by decide +kernel
theorem dL_refuses_127 : decode cL_refuses 127 = .ok (.if_icmp .ne 348, 3) := by decide +kernel
theorem dL_refuses_130 : decode cL_refuses 130 = .ok (.aload_n 0, 1) := by decide +kernel
theorem dL_refuses_131 : decode cL_refuses 131 = .ok (.iload_n 2, 1) := by decide +kernel
theorem dL_refuses_132 : decode cL_refuses 132 = .ok (.iconst 0, 1) := by decide +kernel
theorem dL_refuses_133 : decode cL_refuses 133 = .ok (.invokestatic 87, 3) := by decide +kernel
theorem dL_refuses_136 : decode cL_refuses 136 = .ok (.bipush (-3), 2) := by decide +kernel
theorem dL_refuses_138 : decode cL_refuses 138 = .ok (.if_icmp .ne 337, 3) := by decide +kernel
theorem dL_refuses_141 : decode cL_refuses 141 = .ok (.aload_n 0, 1) := by decide +kernel
theorem dL_refuses_142 : decode cL_refuses 142 = .ok (.iconst 3, 1) := by decide +kernel
theorem dL_refuses_143 : decode cL_refuses 143 = .ok (.iconst 3, 1) := by decide +kernel
theorem dL_refuses_144 : decode cL_refuses 144 = .ok (.invokestatic 87, 3) := by decide +kernel
theorem dL_refuses_147 : decode cL_refuses 147 = .ok (.bipush (-2), 2) := by decide +kernel
theorem dL_refuses_149 : decode cL_refuses 149 = .ok (.if_icmp .ne 326, 3) := by decide +kernel
theorem dL_refuses_152 : decode cL_refuses 152 = .ok (.aload_n 0, 1) := by decide +kernel
theorem dL_refuses_153 : decode cL_refuses 153 = .ok (.iload_n 2, 1) := by decide +kernel
theorem dL_refuses_154 : decode cL_refuses 154 = .ok (.iconst 1, 1) := by decide +kernel
theorem dL_refuses_155 : decode cL_refuses 155 = .ok (.invokestatic 90, 3) := by decide +kernel
theorem dL_refuses_158 : decode cL_refuses 158 = .ok (.bipush (-3), 2) := by decide +kernel
theorem dL_refuses_160 : decode cL_refuses 160 = .ok (.if_icmp .ne 315, 3) := by decide +kernel
theorem dL_refuses_163 : decode cL_refuses 163 = .ok (.aload_n 0, 1) := by decide +kernel
theorem dL_refuses_164 : decode cL_refuses 164 = .ok (.iconst 0, 1) := by decide +kernel
theorem dL_refuses_165 : decode cL_refuses 165 = .ok (.sipush 501, 3) := by decide +kernel
theorem dL_refuses_168 : decode cL_refuses 168 = .ok (.iload_n 1, 1) := by decide +kernel
theorem dL_refuses_169 : decode cL_refuses 169 = .ok (.iadd, 1) := by decide +kernel
theorem dL_refuses_170 : decode cL_refuses 170 = .ok (.invokestatic 90, 3) := by decide +kernel
theorem dL_refuses_173 : decode cL_refuses 173 = .ok (.bipush (-2), 2) := by decide +kernel
theorem dL_refuses_175 : decode cL_refuses 175 = .ok (.if_icmp .ne 300, 3) := by decide +kernel
theorem dL_refuses_178 : decode cL_refuses 178 = .ok (.aload_n 0, 1) := by decide +kernel
theorem dL_refuses_179 : decode cL_refuses 179 = .ok (.iconst 1, 1) := by decide +kernel
theorem dL_refuses_180 : decode cL_refuses 180 = .ok (.iconst 2, 1) := by decide +kernel
theorem dL_refuses_181 : decode cL_refuses 181 = .ok (.iload_n 1, 1) := by decide +kernel
theorem dL_refuses_182 : decode cL_refuses 182 = .ok (.iadd, 1) := by decide +kernel
theorem dL_refuses_183 : decode cL_refuses 183 = .ok (.invokestatic 90, 3) := by decide +kernel
theorem dL_refuses_186 : decode cL_refuses 186 = .ok (.bipush (-2), 2) := by decide +kernel
theorem dL_refuses_188 : decode cL_refuses 188 = .ok (.if_icmp .ne 287, 3) := by decide +kernel
theorem dL_refuses_191 : decode cL_refuses 191 = .ok (.aload_n 0, 1) := by decide +kernel
theorem dL_refuses_192 : decode cL_refuses 192 = .ok (.iconst 2, 1) := by decide +kernel
theorem dL_refuses_193 : decode cL_refuses 193 = .ok (.iconst 5, 1) := by decide +kernel
theorem dL_refuses_194 : decode cL_refuses 194 = .ok (.iload_n 1, 1) := by decide +kernel
theorem dL_refuses_195 : decode cL_refuses 195 = .ok (.iadd, 1) := by decide +kernel
theorem dL_refuses_196 : decode cL_refuses 196 = .ok (.invokestatic 90, 3) := by decide +kernel
theorem dL_refuses_199 : decode cL_refuses 199 = .ok (.bipush (-2), 2) := by decide +kernel
theorem dL_refuses_201 : decode cL_refuses 201 = .ok (.if_icmp .ne 274, 3) := by decide +kernel
theorem dL_refuses_204 : decode cL_refuses 204 = .ok (.aload_n 0, 1) := by decide +kernel
theorem dL_refuses_205 : decode cL_refuses 205 = .ok (.iload_n 2, 1) := by decide +kernel
theorem dL_refuses_206 : decode cL_refuses 206 = .ok (.iconst 1, 1) := by decide +kernel
theorem dL_refuses_207 : decode cL_refuses 207 = .ok (.invokestatic 94, 3) := by decide +kernel
theorem dL_refuses_210 : decode cL_refuses 210 = .ok (.bipush (-3), 2) := by decide +kernel
theorem dL_refuses_212 : decode cL_refuses 212 = .ok (.if_icmp .ne 263, 3) := by decide +kernel
theorem dL_refuses_215 : decode cL_refuses 215 = .ok (.aload_n 0, 1) := by decide +kernel
theorem dL_refuses_216 : decode cL_refuses 216 = .ok (.iconst 0, 1) := by decide +kernel
theorem dL_refuses_217 : decode cL_refuses 217 = .ok (.sipush 10000, 3) := by decide +kernel
theorem dL_refuses_220 : decode cL_refuses 220 = .ok (.iload_n 1, 1) := by decide +kernel
theorem dL_refuses_221 : decode cL_refuses 221 = .ok (.iadd, 1) := by decide +kernel
theorem dL_refuses_222 : decode cL_refuses 222 = .ok (.invokestatic 94, 3) := by decide +kernel
theorem dL_refuses_225 : decode cL_refuses 225 = .ok (.bipush (-2), 2) := by decide +kernel
theorem dL_refuses_227 : decode cL_refuses 227 = .ok (.if_icmp .ne 248, 3) := by decide +kernel
theorem dL_refuses_230 : decode cL_refuses 230 = .ok (.aload_n 0, 1) := by decide +kernel
theorem dL_refuses_231 : decode cL_refuses 231 = .ok (.iload_n 3, 1) := by decide +kernel
theorem dL_refuses_232 : decode cL_refuses 232 = .ok (.iconst 0, 1) := by decide +kernel
theorem dL_refuses_233 : decode cL_refuses 233 = .ok (.invokestatic 117, 3) := by decide +kernel
theorem dL_refuses_236 : decode cL_refuses 236 = .ok (.bipush (-3), 2) := by decide +kernel
theorem dL_refuses_238 : decode cL_refuses 238 = .ok (.if_icmp .ne 237, 3) := by decide +kernel
theorem dL_refuses_241 : decode cL_refuses 241 = .ok (.aload_n 0, 1) := by decide +kernel
theorem dL_refuses_242 : decode cL_refuses 242 = .ok (.iload_n 3, 1) := by decide +kernel
theorem dL_refuses_243 : decode cL_refuses 243 = .ok (.invokestatic 96, 3) := by decide +kernel
theorem dL_refuses_246 : decode cL_refuses 246 = .ok (.bipush (-2), 2) := by decide +kernel
theorem dL_refuses_248 : decode cL_refuses 248 = .ok (.if_icmp .ne 227, 3) := by decide +kernel
theorem dL_refuses_251 : decode cL_refuses 251 = .ok (.aload_n 0, 1) := by decide +kernel
theorem dL_refuses_252 : decode cL_refuses 252 = .ok (.iload_n 2, 1) := by decide +kernel
theorem dL_refuses_253 : decode cL_refuses 253 = .ok (.iload_n 2, 1) := by decide +kernel
theorem dL_refuses_254 : decode cL_refuses 254 = .ok (.bipush 9, 2) := by decide +kernel
theorem dL_refuses_256 : decode cL_refuses 256 = .ok (.invokestatic 119, 3) := by decide +kernel
theorem dL_refuses_259 : decode cL_refuses 259 = .ok (.bipush (-3), 2) := by decide +kernel
theorem dL_refuses_261 : decode cL_refuses 261 = .ok (.if_icmp .ne 214, 3) := by decide +kernel
theorem dL_refuses_264 : decode cL_refuses 264 = .ok (.aload_n 0, 1) := by decide +kernel
theorem dL_refuses_265 : decode cL_refuses 265 = .ok (.iconst 1, 1) := by decide +kernel
theorem dL_refuses_266 : decode cL_refuses 266 = .ok (.iconst 1, 1) := by decide +kernel
theorem dL_refuses_267 : decode cL_refuses 267 = .ok (.iconst 0, 1) := by decide +kernel
theorem dL_refuses_268 : decode cL_refuses 268 = .ok (.invokestatic 119, 3) := by decide +kernel
theorem dL_refuses_271 : decode cL_refuses 271 = .ok (.bipush (-2), 2) := by decide +kernel
theorem dL_refuses_273 : decode cL_refuses 273 = .ok (.if_icmp .ne 202, 3) := by decide +kernel
theorem dL_refuses_276 : decode cL_refuses 276 = .ok (.aload_n 0, 1) := by decide +kernel
theorem dL_refuses_277 : decode cL_refuses 277 = .ok (.iconst (-1), 1) := by decide +kernel
theorem dL_refuses_278 : decode cL_refuses 278 = .ok (.iload_n 1, 1) := by decide +kernel
theorem dL_refuses_279 : decode cL_refuses 279 = .ok (.isub, 1) := by decide +kernel
theorem dL_refuses_280 : decode cL_refuses 280 = .ok (.iconst 0, 1) := by decide +kernel
theorem dL_refuses_281 : decode cL_refuses 281 = .ok (.invokestatic 138, 3) := by decide +kernel
theorem dL_refuses_284 : decode cL_refuses 284 = .ok (.bipush (-2), 2) := by decide +kernel
theorem dL_refuses_286 : decode cL_refuses 286 = .ok (.if_icmp .ne 189, 3) := by decide +kernel
theorem dL_refuses_289 : decode cL_refuses 289 = .ok (.aload_n 0, 1) := by decide +kernel
theorem dL_refuses_290 : decode cL_refuses 290 = .ok (.iconst 0, 1) := by decide +kernel
theorem dL_refuses_291 : decode cL_refuses 291 = .ok (.iconst 4, 1) := by decide +kernel
theorem dL_refuses_292 : decode cL_refuses 292 = .ok (.iload_n 1, 1) := by decide +kernel
theorem dL_refuses_293 : decode cL_refuses 293 = .ok (.iadd, 1) := by decide +kernel
theorem dL_refuses_294 : decode cL_refuses 294 = .ok (.invokestatic 138, 3) := by decide +kernel
theorem dL_refuses_297 : decode cL_refuses 297 = .ok (.bipush (-2), 2) := by decide +kernel
theorem dL_refuses_299 : decode cL_refuses 299 = .ok (.if_icmp .ne 176, 3) := by decide +kernel
theorem dL_refuses_302 : decode cL_refuses 302 = .ok (.aload_n 0, 1) := by decide +kernel
theorem dL_refuses_303 : decode cL_refuses 303 = .ok (.iload_n 3, 1) := by decide +kernel
theorem dL_refuses_304 : decode cL_refuses 304 = .ok (.bipush 9, 2) := by decide +kernel
theorem dL_refuses_306 : decode cL_refuses 306 = .ok (.invokestatic 141, 3) := by decide +kernel
theorem dL_refuses_309 : decode cL_refuses 309 = .ok (.bipush (-3), 2) := by decide +kernel
theorem dL_refuses_311 : decode cL_refuses 311 = .ok (.if_icmp .ne 164, 3) := by decide +kernel
theorem dL_refuses_314 : decode cL_refuses 314 = .ok (.aload_n 0, 1) := by decide +kernel
theorem dL_refuses_315 : decode cL_refuses 315 = .ok (.bipush 18, 2) := by decide +kernel
theorem dL_refuses_317 : decode cL_refuses 317 = .ok (.iload_n 1, 1) := by decide +kernel
theorem dL_refuses_318 : decode cL_refuses 318 = .ok (.iadd, 1) := by decide +kernel
theorem dL_refuses_319 : decode cL_refuses 319 = .ok (.invokestatic 130, 3) := by decide +kernel
theorem dL_refuses_322 : decode cL_refuses 322 = .ok (.bipush (-2), 2) := by decide +kernel
theorem dL_refuses_324 : decode cL_refuses 324 = .ok (.if_icmp .ne 151, 3) := by decide +kernel
theorem dL_refuses_327 : decode cL_refuses 327 = .ok (.aload_n 0, 1) := by decide +kernel
theorem dL_refuses_328 : decode cL_refuses 328 = .ok (.iconst 4, 1) := by decide +kernel
theorem dL_refuses_329 : decode cL_refuses 329 = .ok (.iconst 4, 1) := by decide +kernel
theorem dL_refuses_330 : decode cL_refuses 330 = .ok (.iconst 1, 1) := by decide +kernel
theorem dL_refuses_331 : decode cL_refuses 331 = .ok (.iconst 1, 1) := by decide +kernel
theorem dL_refuses_332 : decode cL_refuses 332 = .ok (.invokestatic 132, 3) := by decide +kernel
theorem dL_refuses_335 : decode cL_refuses 335 = .ok (.bipush (-2), 2) := by decide +kernel
theorem dL_refuses_337 : decode cL_refuses 337 = .ok (.if_icmp .ne 138, 3) := by decide +kernel
theorem dL_refuses_340 : decode cL_refuses 340 = .ok (.aload_n 0, 1) := by decide +kernel
theorem dL_refuses_341 : decode cL_refuses 341 = .ok (.iload_n 2, 1) := by decide +kernel
theorem dL_refuses_342 : decode cL_refuses 342 = .ok (.iconst 0, 1) := by decide +kernel
theorem dL_refuses_343 : decode cL_refuses 343 = .ok (.iconst 1, 1) := by decide +kernel
theorem dL_refuses_344 : decode cL_refuses 344 = .ok (.iconst 1, 1) := by decide +kernel
theorem dL_refuses_345 : decode cL_refuses 345 = .ok (.invokestatic 132, 3) := by decide +kernel
theorem dL_refuses_348 : decode cL_refuses 348 = .ok (.bipush (-3), 2) := by decide +kernel
theorem dL_refuses_350 : decode cL_refuses 350 = .ok (.if_icmp .ne 125, 3) := by decide +kernel
theorem dL_refuses_353 : decode cL_refuses 353 = .ok (.aload_n 0, 1) := by decide +kernel
theorem dL_refuses_354 : decode cL_refuses 354 = .ok (.iconst 0, 1) := by decide +kernel
theorem dL_refuses_355 : decode cL_refuses 355 = .ok (.iconst 1, 1) := by decide +kernel
theorem dL_refuses_356 : decode cL_refuses 356 = .ok (.iconst (-1), 1) := by decide +kernel
theorem dL_refuses_357 : decode cL_refuses 357 = .ok (.iload_n 1, 1) := by decide +kernel
theorem dL_refuses_358 : decode cL_refuses 358 = .ok (.isub, 1) := by decide +kernel
theorem dL_refuses_359 : decode cL_refuses 359 = .ok (.invokestatic 122, 3) := by decide +kernel
theorem dL_refuses_362 : decode cL_refuses 362 = .ok (.bipush (-2), 2) := by decide +kernel
theorem dL_refuses_364 : decode cL_refuses 364 = .ok (.if_icmp .ne 111, 3) := by decide +kernel
theorem dL_refuses_367 : decode cL_refuses 367 = .ok (.aload_n 0, 1) := by decide +kernel
theorem dL_refuses_368 : decode cL_refuses 368 = .ok (.iload_n 2, 1) := by decide +kernel
theorem dL_refuses_369 : decode cL_refuses 369 = .ok (.iconst 0, 1) := by decide +kernel
theorem dL_refuses_370 : decode cL_refuses 370 = .ok (.iconst 1, 1) := by decide +kernel
theorem dL_refuses_371 : decode cL_refuses 371 = .ok (.invokestatic 122, 3) := by decide +kernel
theorem dL_refuses_374 : decode cL_refuses 374 = .ok (.bipush (-3), 2) := by decide +kernel
theorem dL_refuses_376 : decode cL_refuses 376 = .ok (.if_icmp .ne 99, 3) := by decide +kernel
theorem dL_refuses_379 : decode cL_refuses 379 = .ok (.aload_n 0, 1) := by decide +kernel
theorem dL_refuses_380 : decode cL_refuses 380 = .ok (.iconst 0, 1) := by decide +kernel
theorem dL_refuses_381 : decode cL_refuses 381 = .ok (.iconst 1, 1) := by decide +kernel
theorem dL_refuses_382 : decode cL_refuses 382 = .ok (.sipush 10000, 3) := by decide +kernel
theorem dL_refuses_385 : decode cL_refuses 385 = .ok (.iload_n 1, 1) := by decide +kernel
theorem dL_refuses_386 : decode cL_refuses 386 = .ok (.iadd, 1) := by decide +kernel
theorem dL_refuses_387 : decode cL_refuses 387 = .ok (.invokestatic 124, 3) := by decide +kernel
theorem dL_refuses_390 : decode cL_refuses 390 = .ok (.bipush (-2), 2) := by decide +kernel
theorem dL_refuses_392 : decode cL_refuses 392 = .ok (.if_icmp .ne 83, 3) := by decide +kernel
theorem dL_refuses_395 : decode cL_refuses 395 = .ok (.aload_n 0, 1) := by decide +kernel
theorem dL_refuses_396 : decode cL_refuses 396 = .ok (.iconst 0, 1) := by decide +kernel
theorem dL_refuses_397 : decode cL_refuses 397 = .ok (.iload_n 2, 1) := by decide +kernel
theorem dL_refuses_398 : decode cL_refuses 398 = .ok (.iconst 1, 1) := by decide +kernel
theorem dL_refuses_399 : decode cL_refuses 399 = .ok (.invokestatic 124, 3) := by decide +kernel
theorem dL_refuses_402 : decode cL_refuses 402 = .ok (.bipush (-3), 2) := by decide +kernel
theorem dL_refuses_404 : decode cL_refuses 404 = .ok (.if_icmp .ne 71, 3) := by decide +kernel
theorem dL_refuses_407 : decode cL_refuses 407 = .ok (.aload_n 0, 1) := by decide +kernel
theorem dL_refuses_408 : decode cL_refuses 408 = .ok (.iconst 0, 1) := by decide +kernel
theorem dL_refuses_409 : decode cL_refuses 409 = .ok (.iconst 1, 1) := by decide +kernel
theorem dL_refuses_410 : decode cL_refuses 410 = .ok (.iconst 2, 1) := by decide +kernel
theorem dL_refuses_411 : decode cL_refuses 411 = .ok (.iload_n 1, 1) := by decide +kernel
theorem dL_refuses_412 : decode cL_refuses 412 = .ok (.iadd, 1) := by decide +kernel
theorem dL_refuses_413 : decode cL_refuses 413 = .ok (.invokestatic 128, 3) := by decide +kernel
theorem dL_refuses_416 : decode cL_refuses 416 = .ok (.bipush (-2), 2) := by decide +kernel
theorem dL_refuses_418 : decode cL_refuses 418 = .ok (.if_icmp .ne 57, 3) := by decide +kernel
theorem dL_refuses_421 : decode cL_refuses 421 = .ok (.aload_n 0, 1) := by decide +kernel
theorem dL_refuses_422 : decode cL_refuses 422 = .ok (.iload_n 2, 1) := by decide +kernel
theorem dL_refuses_423 : decode cL_refuses 423 = .ok (.iconst 0, 1) := by decide +kernel
theorem dL_refuses_424 : decode cL_refuses 424 = .ok (.iconst 0, 1) := by decide +kernel
theorem dL_refuses_425 : decode cL_refuses 425 = .ok (.invokestatic 128, 3) := by decide +kernel
theorem dL_refuses_428 : decode cL_refuses 428 = .ok (.bipush (-3), 2) := by decide +kernel
theorem dL_refuses_430 : decode cL_refuses 430 = .ok (.if_icmp .ne 45, 3) := by decide +kernel
theorem dL_refuses_433 : decode cL_refuses 433 = .ok (.aload_n 0, 1) := by decide +kernel
theorem dL_refuses_434 : decode cL_refuses 434 = .ok (.iconst 2, 1) := by decide +kernel
theorem dL_refuses_435 : decode cL_refuses 435 = .ok (.iload_n 1, 1) := by decide +kernel
theorem dL_refuses_436 : decode cL_refuses 436 = .ok (.iadd, 1) := by decide +kernel
theorem dL_refuses_437 : decode cL_refuses 437 = .ok (.invokestatic 143, 3) := by decide +kernel
theorem dL_refuses_440 : decode cL_refuses 440 = .ok (.bipush (-2), 2) := by decide +kernel
theorem dL_refuses_442 : decode cL_refuses 442 = .ok (.if_icmp .ne 33, 3) := by decide +kernel
theorem dL_refuses_445 : decode cL_refuses 445 = .ok (.aload_n 0, 1) := by decide +kernel
theorem dL_refuses_446 : decode cL_refuses 446 = .ok (.bipush 32, 2) := by decide +kernel
theorem dL_refuses_448 : decode cL_refuses 448 = .ok (.iload_n 1, 1) := by decide +kernel
theorem dL_refuses_449 : decode cL_refuses 449 = .ok (.isub, 1) := by decide +kernel
theorem dL_refuses_450 : decode cL_refuses 450 = .ok (.invokestatic 110, 3) := by decide +kernel
theorem dL_refuses_453 : decode cL_refuses 453 = .ok (.bipush (-2), 2) := by decide +kernel
theorem dL_refuses_455 : decode cL_refuses 455 = .ok (.if_icmp .ne 20, 3) := by decide +kernel
theorem dL_refuses_458 : decode cL_refuses 458 = .ok (.aload_n 0, 1) := by decide +kernel
theorem dL_refuses_459 : decode cL_refuses 459 = .ok (.bipush 127, 2) := by decide +kernel
theorem dL_refuses_461 : decode cL_refuses 461 = .ok (.iload_n 1, 1) := by decide +kernel
theorem dL_refuses_462 : decode cL_refuses 462 = .ok (.iadd, 1) := by decide +kernel
theorem dL_refuses_463 : decode cL_refuses 463 = .ok (.invokestatic 110, 3) := by decide +kernel
theorem dL_refuses_466 : decode cL_refuses 466 = .ok (.bipush (-2), 2) := by decide +kernel
theorem dL_refuses_468 : decode cL_refuses 468 = .ok (.if_icmp .ne 7, 3) := by decide +kernel
theorem dL_refuses_471 : decode cL_refuses 471 = .ok (.iconst 1, 1) := by decide +kernel
theorem dL_refuses_472 : decode cL_refuses 472 = .ok (.goto 4, 3) := by decide +kernel
theorem dL_refuses_475 : decode cL_refuses 475 = .ok (.iconst 0, 1) := by decide +kernel
theorem dL_refuses_476 : decode cL_refuses 476 = .ok (.istore 4, 2) := by decide +kernel
theorem dL_refuses_478 : decode cL_refuses 478 = .ok (.iload 4, 2) := by decide +kernel
theorem dL_refuses_480 : decode cL_refuses 480 = .ok (.ifCond .eq 63, 3) := by decide +kernel
theorem dL_refuses_483 : decode cL_refuses 483 = .ok (.aload_n 0, 1) := by decide +kernel
theorem dL_refuses_484 : decode cL_refuses 484 = .ok (.iconst 5, 1) := by decide +kernel
theorem dL_refuses_485 : decode cL_refuses 485 = .ok (.invokestatic 130, 3) := by decide +kernel
theorem dL_refuses_488 : decode cL_refuses 488 = .ok (.bipush 8, 2) := by decide +kernel
theorem dL_refuses_490 : decode cL_refuses 490 = .ok (.if_icmp .lt 14, 3) := by decide +kernel
theorem dL_refuses_493 : decode cL_refuses 493 = .ok (.aload_n 0, 1) := by decide +kernel
theorem dL_refuses_494 : decode cL_refuses 494 = .ok (.iconst 0, 1) := by decide +kernel
theorem dL_refuses_495 : decode cL_refuses 495 = .ok (.iconst 1, 1) := by decide +kernel
theorem dL_refuses_496 : decode cL_refuses 496 = .ok (.invokestatic 94, 3) := by decide +kernel
theorem dL_refuses_499 : decode cL_refuses 499 = .ok (.bipush (-4), 2) := by decide +kernel
theorem dL_refuses_501 : decode cL_refuses 501 = .ok (.if_icmp .ne 42, 3) := by decide +kernel
theorem dL_refuses_504 : decode cL_refuses 504 = .ok (.aload_n 0, 1) := by decide +kernel
theorem dL_refuses_505 : decode cL_refuses 505 = .ok (.iconst 5, 1) := by decide +kernel
theorem dL_refuses_506 : decode cL_refuses 506 = .ok (.invokestatic 130, 3) := by decide +kernel
theorem dL_refuses_509 : decode cL_refuses 509 = .ok (.ifCond .eq 30, 3) := by decide +kernel
theorem dL_refuses_512 : decode cL_refuses 512 = .ok (.aload_n 0, 1) := by decide +kernel
theorem dL_refuses_513 : decode cL_refuses 513 = .ok (.iconst 0, 1) := by decide +kernel
theorem dL_refuses_514 : decode cL_refuses 514 = .ok (.iload_n 2, 1) := by decide +kernel
theorem dL_refuses_515 : decode cL_refuses 515 = .ok (.invokestatic 117, 3) := by decide +kernel
theorem dL_refuses_518 : decode cL_refuses 518 = .ok (.bipush (-3), 2) := by decide +kernel
theorem dL_refuses_520 : decode cL_refuses 520 = .ok (.if_icmp .ne 23, 3) := by decide +kernel
theorem dL_refuses_523 : decode cL_refuses 523 = .ok (.aload_n 0, 1) := by decide +kernel
theorem dL_refuses_524 : decode cL_refuses 524 = .ok (.iconst 0, 1) := by decide +kernel
theorem dL_refuses_525 : decode cL_refuses 525 = .ok (.aload_n 0, 1) := by decide +kernel
theorem dL_refuses_526 : decode cL_refuses 526 = .ok (.iconst 0, 1) := by decide +kernel
theorem dL_refuses_527 : decode cL_refuses 527 = .ok (.iconst 0, 1) := by decide +kernel
theorem dL_refuses_528 : decode cL_refuses 528 = .ok (.invokestatic 141, 3) := by decide +kernel
theorem dL_refuses_531 : decode cL_refuses 531 = .ok (.invokestatic 117, 3) := by decide +kernel
theorem dL_refuses_534 : decode cL_refuses 534 = .ok (.bipush (-2), 2) := by decide +kernel
theorem dL_refuses_536 : decode cL_refuses 536 = .ok (.if_icmp .ne 7, 3) := by decide +kernel
theorem dL_refuses_539 : decode cL_refuses 539 = .ok (.iconst 1, 1) := by decide +kernel
theorem dL_refuses_540 : decode cL_refuses 540 = .ok (.goto 4, 3) := by decide +kernel
theorem dL_refuses_543 : decode cL_refuses 543 = .ok (.iconst 0, 1) := by decide +kernel
theorem dL_refuses_544 : decode cL_refuses 544 = .ok (.istore 4, 2) := by decide +kernel
theorem dL_refuses_546 : decode cL_refuses 546 = .ok (.aload_n 0, 1) := by decide +kernel
theorem dL_refuses_547 : decode cL_refuses 547 = .ok (.invokevirtual 107, 3) := by decide +kernel
theorem dL_refuses_550 : decode cL_refuses 550 = .ok (.istore 5, 2) := by decide +kernel
theorem dL_refuses_552 : decode cL_refuses 552 = .ok (.iload 4, 2) := by decide +kernel
theorem dL_refuses_554 : decode cL_refuses 554 = .ok (.ifCond .eq 55, 3) := by decide +kernel
theorem dL_refuses_557 : decode cL_refuses 557 = .ok (.iload 5, 2) := by decide +kernel
theorem dL_refuses_559 : decode cL_refuses 559 = .ok (.ifCond .lt 50, 3) := by decide +kernel
theorem dL_refuses_562 : decode cL_refuses 562 = .ok (.aload_n 0, 1) := by decide +kernel
theorem dL_refuses_563 : decode cL_refuses 563 = .ok (.invokestatic 115, 3) := by decide +kernel
theorem dL_refuses_566 : decode cL_refuses 566 = .ok (.bipush (-2), 2) := by decide +kernel
theorem dL_refuses_568 : decode cL_refuses 568 = .ok (.if_icmp .ne 41, 3) := by decide +kernel
theorem dL_refuses_571 : decode cL_refuses 571 = .ok (.aload_n 0, 1) := by decide +kernel
theorem dL_refuses_572 : decode cL_refuses 572 = .ok (.bipush 59, 2) := by decide +kernel
theorem dL_refuses_574 : decode cL_refuses 574 = .ok (.invokestatic 110, 3) := by decide +kernel
theorem dL_refuses_577 : decode cL_refuses 577 = .ok (.iconst 1, 1) := by decide +kernel
theorem dL_refuses_578 : decode cL_refuses 578 = .ok (.if_icmp .ne 31, 3) := by decide +kernel
theorem dL_refuses_581 : decode cL_refuses 581 = .ok (.aload_n 0, 1) := by decide +kernel
theorem dL_refuses_582 : decode cL_refuses 582 = .ok (.invokevirtual 112, 3) := by decide +kernel
theorem dL_refuses_585 : decode cL_refuses 585 = .ok (.ifCond .ne 24, 3) := by decide +kernel
theorem dL_refuses_588 : decode cL_refuses 588 = .ok (.aload_n 0, 1) := by decide +kernel
theorem dL_refuses_589 : decode cL_refuses 589 = .ok (.invokestatic 115, 3) := by decide +kernel
theorem dL_refuses_592 : decode cL_refuses 592 = .ok (.bipush (-2), 2) := by decide +kernel
theorem dL_refuses_594 : decode cL_refuses 594 = .ok (.if_icmp .ne 15, 3) := by decide +kernel
theorem dL_refuses_597 : decode cL_refuses 597 = .ok (.aload_n 0, 1) := by decide +kernel
theorem dL_refuses_598 : decode cL_refuses 598 = .ok (.invokevirtual 107, 3) := by decide +kernel
theorem dL_refuses_601 : decode cL_refuses 601 = .ok (.iconst 1, 1) := by decide +kernel
theorem dL_refuses_602 : decode cL_refuses 602 = .ok (.if_icmp .ne 7, 3) := by decide +kernel
theorem dL_refuses_605 : decode cL_refuses 605 = .ok (.iconst 1, 1) := by decide +kernel
theorem dL_refuses_606 : decode cL_refuses 606 = .ok (.goto 4, 3) := by decide +kernel
theorem dL_refuses_609 : decode cL_refuses 609 = .ok (.iconst 0, 1) := by decide +kernel
theorem dL_refuses_610 : decode cL_refuses 610 = .ok (.ireturn, 1) := by decide +kernel
theorem dL_law_0 : decode cL_law 0 = .ok (.new 10, 3) := by decide +kernel
theorem dL_law_3 : decode cL_law 3 = .ok (.dup, 1) := by decide +kernel
theorem dL_law_4 : decode cL_law 4 = .ok (.invokespecial 149, 3) := by decide +kernel
theorem dL_law_7 : decode cL_law 7 = .ok (.astore_n 1, 1) := by decide +kernel
theorem dL_law_8 : decode cL_law 8 = .ok (.new 10, 3) := by decide +kernel
theorem dL_law_11 : decode cL_law 11 = .ok (.dup, 1) := by decide +kernel
theorem dL_law_12 : decode cL_law 12 = .ok (.invokespecial 149, 3) := by decide +kernel
theorem dL_law_15 : decode cL_law 15 = .ok (.astore_n 2, 1) := by decide +kernel
theorem dL_law_16 : decode cL_law 16 = .ok (.aload_n 1, 1) := by decide +kernel
theorem dL_law_17 : decode cL_law 17 = .ok (.invokestatic 99, 3) := by decide +kernel
theorem dL_law_20 : decode cL_law 20 = .ok (.bipush (-2), 2) := by decide +kernel
theorem dL_law_22 : decode cL_law 22 = .ok (.if_icmp .ne 57, 3) := by decide +kernel
theorem dL_law_25 : decode cL_law 25 = .ok (.aload_n 1, 1) := by decide +kernel
theorem dL_law_26 : decode cL_law 26 = .ok (.invokestatic 105, 3) := by decide +kernel
theorem dL_law_29 : decode cL_law 29 = .ok (.bipush (-2), 2) := by decide +kernel
theorem dL_law_31 : decode cL_law 31 = .ok (.if_icmp .ne 48, 3) := by decide +kernel
theorem dL_law_34 : decode cL_law 34 = .ok (.aload_n 1, 1) := by decide +kernel
theorem dL_law_35 : decode cL_law 35 = .ok (.invokevirtual 112, 3) := by decide +kernel
theorem dL_law_38 : decode cL_law 38 = .ok (.ifCond .ne 41, 3) := by decide +kernel
theorem dL_law_41 : decode cL_law 41 = .ok (.aload_n 1, 1) := by decide +kernel
theorem dL_law_42 : decode cL_law 42 = .ok (.iconst 0, 1) := by decide +kernel
theorem dL_law_43 : decode cL_law 43 = .ok (.invokestatic 143, 3) := by decide +kernel
theorem dL_law_46 : decode cL_law 46 = .ok (.iconst (-1), 1) := by decide +kernel
theorem dL_law_47 : decode cL_law 47 = .ok (.if_icmp .ne 32, 3) := by decide +kernel
theorem dL_law_50 : decode cL_law 50 = .ok (.aload_n 1, 1) := by decide +kernel
theorem dL_law_51 : decode cL_law 51 = .ok (.invokevirtual 145, 3) := by decide +kernel
theorem dL_law_54 : decode cL_law 54 = .ok (.dconst 1, 1) := by decide +kernel
theorem dL_law_55 : decode cL_law 55 = .ok (.dcmp .l, 1) := by decide +kernel
theorem dL_law_56 : decode cL_law 56 = .ok (.ifCond .ne 23, 3) := by decide +kernel
theorem dL_law_59 : decode cL_law 59 = .ok (.aload_n 1, 1) := by decide +kernel
theorem dL_law_60 : decode cL_law 60 = .ok (.iconst 3, 1) := by decide +kernel
theorem dL_law_61 : decode cL_law 61 = .ok (.invokestatic 130, 3) := by decide +kernel
theorem dL_law_64 : decode cL_law 64 = .ok (.iconst 1, 1) := by decide +kernel
theorem dL_law_65 : decode cL_law 65 = .ok (.if_icmp .ne 14, 3) := by decide +kernel
theorem dL_law_68 : decode cL_law 68 = .ok (.aload_n 1, 1) := by decide +kernel
theorem dL_law_69 : decode cL_law 69 = .ok (.invokestatic 150, 3) := by decide +kernel
theorem dL_law_72 : decode cL_law 72 = .ok (.ifCond .eq 7, 3) := by decide +kernel
theorem dL_law_75 : decode cL_law 75 = .ok (.iconst 1, 1) := by decide +kernel
theorem dL_law_76 : decode cL_law 76 = .ok (.goto 4, 3) := by decide +kernel
theorem dL_law_79 : decode cL_law 79 = .ok (.iconst 0, 1) := by decide +kernel
theorem dL_law_80 : decode cL_law 80 = .ok (.istore_n 3, 1) := by decide +kernel
theorem dL_law_81 : decode cL_law 81 = .ok (.iconst 0, 1) := by decide +kernel
theorem dL_law_82 : decode cL_law 82 = .ok (.istore 4, 2) := by decide +kernel
theorem dL_law_84 : decode cL_law 84 = .ok (.iload 4, 2) := by decide +kernel
theorem dL_law_86 : decode cL_law 86 = .ok (.bipush 34, 2) := by decide +kernel
theorem dL_law_88 : decode cL_law 88 = .ok (.if_icmp .ge 140, 3) := by decide +kernel
theorem dL_law_91 : decode cL_law 91 = .ok (.iload_n 3, 1) := by decide +kernel
theorem dL_law_92 : decode cL_law 92 = .ok (.ifCond .eq 136, 3) := by decide +kernel
theorem dL_law_95 : decode cL_law 95 = .ok (.aload_n 0, 1) := by decide +kernel
theorem dL_law_96 : decode cL_law 96 = .ok (.iload 4, 2) := by decide +kernel
theorem dL_law_98 : decode cL_law 98 = .ok (.invokestatic 154, 3) := by decide +kernel
theorem dL_law_101 : decode cL_law 101 = .ok (.istore 5, 2) := by decide +kernel
theorem dL_law_103 : decode cL_law 103 = .ok (.aload_n 1, 1) := by decide +kernel
theorem dL_law_104 : decode cL_law 104 = .ok (.iload 5, 2) := by decide +kernel
theorem dL_law_106 : decode cL_law 106 = .ok (.invokestatic 158, 3) := by decide +kernel
theorem dL_law_109 : decode cL_law 109 = .ok (.istore 6, 2) := by decide +kernel
theorem dL_law_111 : decode cL_law 111 = .ok (.iload 4, 2) := by decide +kernel
theorem dL_law_113 : decode cL_law 113 = .ok (.iconst 3, 1) := by decide +kernel
theorem dL_law_114 : decode cL_law 114 = .ok (.irem, 1) := by decide +kernel
theorem dL_law_115 : decode cL_law 115 = .ok (.ifCond .gt 15, 3) := by decide +kernel
theorem dL_law_118 : decode cL_law 118 = .ok (.aload_n 2, 1) := by decide +kernel
theorem dL_law_119 : decode cL_law 119 = .ok (.iload 5, 2) := by decide +kernel
theorem dL_law_121 : decode cL_law 121 = .ok (.ldc 126, 2) := by decide +kernel
theorem dL_law_123 : decode cL_law 123 = .ok (.irem, 1) := by decide +kernel
theorem dL_law_124 : decode cL_law 124 = .ok (.invokestatic 161, 3) := by decide +kernel
theorem dL_law_127 : decode cL_law 127 = .ok (.ifCond .eq 93, 3) := by decide +kernel
theorem dL_law_130 : decode cL_law 130 = .ok (.aload_n 2, 1) := by decide +kernel
theorem dL_law_131 : decode cL_law 131 = .ok (.iload 5, 2) := by decide +kernel
theorem dL_law_133 : decode cL_law 133 = .ok (.invokestatic 158, 3) := by decide +kernel
theorem dL_law_136 : decode cL_law 136 = .ok (.iload 6, 2) := by decide +kernel
theorem dL_law_138 : decode cL_law 138 = .ok (.if_icmp .ne 82, 3) := by decide +kernel
theorem dL_law_141 : decode cL_law 141 = .ok (.aload_n 1, 1) := by decide +kernel
theorem dL_law_142 : decode cL_law 142 = .ok (.bipush 17, 2) := by decide +kernel
theorem dL_law_144 : decode cL_law 144 = .ok (.invokestatic 130, 3) := by decide +kernel
theorem dL_law_147 : decode cL_law 147 = .ok (.aload_n 2, 1) := by decide +kernel
theorem dL_law_148 : decode cL_law 148 = .ok (.bipush 17, 2) := by decide +kernel
theorem dL_law_150 : decode cL_law 150 = .ok (.invokestatic 130, 3) := by decide +kernel
theorem dL_law_153 : decode cL_law 153 = .ok (.if_icmp .ne 67, 3) := by decide +kernel
theorem dL_law_156 : decode cL_law 156 = .ok (.iload 4, 2) := by decide +kernel
theorem dL_law_158 : decode cL_law 158 = .ok (.bipush 6, 2) := by decide +kernel
theorem dL_law_160 : decode cL_law 160 = .ok (.irem, 1) := by decide +kernel
theorem dL_law_161 : decode cL_law 161 = .ok (.ifCond .gt 29, 3) := by decide +kernel
theorem dL_law_164 : decode cL_law 164 = .ok (.aload_n 1, 1) := by decide +kernel
theorem dL_law_165 : decode cL_law 165 = .ok (.invokevirtual 107, 3) := by decide +kernel
theorem dL_law_168 : decode cL_law 168 = .ok (.ifCond .lt 52, 3) := by decide +kernel
theorem dL_law_171 : decode cL_law 171 = .ok (.aload_n 2, 1) := by decide +kernel
theorem dL_law_172 : decode cL_law 172 = .ok (.invokevirtual 107, 3) := by decide +kernel
theorem dL_law_175 : decode cL_law 175 = .ok (.ifCond .lt 45, 3) := by decide +kernel
theorem dL_law_178 : decode cL_law 178 = .ok (.aload_n 1, 1) := by decide +kernel
theorem dL_law_179 : decode cL_law 179 = .ok (.invokevirtual 165, 3) := by decide +kernel
theorem dL_law_182 : decode cL_law 182 = .ok (.aload_n 2, 1) := by decide +kernel
theorem dL_law_183 : decode cL_law 183 = .ok (.invokevirtual 165, 3) := by decide +kernel
theorem dL_law_186 : decode cL_law 186 = .ok (.lcmp, 1) := by decide +kernel
theorem dL_law_187 : decode cL_law 187 = .ok (.ifCond .ne 33, 3) := by decide +kernel
theorem dL_law_190 : decode cL_law 190 = .ok (.iload 4, 2) := by decide +kernel
theorem dL_law_192 : decode cL_law 192 = .ok (.iconst 4, 1) := by decide +kernel
theorem dL_law_193 : decode cL_law 193 = .ok (.irem, 1) := by decide +kernel
theorem dL_law_194 : decode cL_law 194 = .ok (.ifCond .gt 22, 3) := by decide +kernel
theorem dL_law_197 : decode cL_law 197 = .ok (.iload 4, 2) := by decide +kernel
theorem dL_law_199 : decode cL_law 199 = .ok (.bipush 8, 2) := by decide +kernel
theorem dL_law_201 : decode cL_law 201 = .ok (.irem, 1) := by decide +kernel
theorem dL_law_202 : decode cL_law 202 = .ok (.ifCond .ne 7, 3) := by decide +kernel
theorem dL_law_205 : decode cL_law 205 = .ok (.aload_n 1, 1) := by decide +kernel
theorem dL_law_206 : decode cL_law 206 = .ok (.goto 4, 3) := by decide +kernel
theorem dL_law_209 : decode cL_law 209 = .ok (.aload_n 2, 1) := by decide +kernel
theorem dL_law_210 : decode cL_law 210 = .ok (.invokestatic 150, 3) := by decide +kernel
theorem dL_law_213 : decode cL_law 213 = .ok (.ifCond .eq 7, 3) := by decide +kernel
theorem dL_law_216 : decode cL_law 216 = .ok (.iconst 1, 1) := by decide +kernel
theorem dL_law_217 : decode cL_law 217 = .ok (.goto 4, 3) := by decide +kernel
theorem dL_law_220 : decode cL_law 220 = .ok (.iconst 0, 1) := by decide +kernel
theorem dL_law_221 : decode cL_law 221 = .ok (.istore_n 3, 1) := by decide +kernel
theorem dL_law_222 : decode cL_law 222 = .ok (.iinc 4 1, 3) := by decide +kernel
theorem dL_law_225 : decode cL_law 225 = .ok (.goto (-141), 3) := by decide +kernel
theorem dL_law_228 : decode cL_law 228 = .ok (.aload_n 1, 1) := by decide +kernel
theorem dL_law_229 : decode cL_law 229 = .ok (.invokevirtual 107, 3) := by decide +kernel
theorem dL_law_232 : decode cL_law 232 = .ok (.istore 4, 2) := by decide +kernel
theorem dL_law_234 : decode cL_law 234 = .ok (.aload_n 2, 1) := by decide +kernel
theorem dL_law_235 : decode cL_law 235 = .ok (.invokevirtual 107, 3) := by decide +kernel
theorem dL_law_238 : decode cL_law 238 = .ok (.istore 5, 2) := by decide +kernel
theorem dL_law_240 : decode cL_law 240 = .ok (.iload_n 3, 1) := by decide +kernel
theorem dL_law_241 : decode cL_law 241 = .ok (.ifCond .eq 36, 3) := by decide +kernel
theorem dL_law_244 : decode cL_law 244 = .ok (.iload 4, 2) := by decide +kernel
theorem dL_law_246 : decode cL_law 246 = .ok (.ifCond .lt 31, 3) := by decide +kernel
theorem dL_law_249 : decode cL_law 249 = .ok (.iload 5, 2) := by decide +kernel
theorem dL_law_251 : decode cL_law 251 = .ok (.ifCond .lt 26, 3) := by decide +kernel
theorem dL_law_254 : decode cL_law 254 = .ok (.aload_n 1, 1) := by decide +kernel
theorem dL_law_255 : decode cL_law 255 = .ok (.invokevirtual 165, 3) := by decide +kernel
theorem dL_law_258 : decode cL_law 258 = .ok (.aload_n 2, 1) := by decide +kernel
theorem dL_law_259 : decode cL_law 259 = .ok (.invokevirtual 165, 3) := by decide +kernel
theorem dL_law_262 : decode cL_law 262 = .ok (.lcmp, 1) := by decide +kernel
theorem dL_law_263 : decode cL_law 263 = .ok (.ifCond .ne 14, 3) := by decide +kernel
theorem dL_law_266 : decode cL_law 266 = .ok (.aload_n 1, 1) := by decide +kernel
theorem dL_law_267 : decode cL_law 267 = .ok (.invokestatic 150, 3) := by decide +kernel
theorem dL_law_270 : decode cL_law 270 = .ok (.ifCond .eq 7, 3) := by decide +kernel
theorem dL_law_273 : decode cL_law 273 = .ok (.iconst 1, 1) := by decide +kernel
theorem dL_law_274 : decode cL_law 274 = .ok (.goto 4, 3) := by decide +kernel
theorem dL_law_277 : decode cL_law 277 = .ok (.iconst 0, 1) := by decide +kernel
theorem dL_law_278 : decode cL_law 278 = .ok (.ireturn, 1) := by decide +kernel
