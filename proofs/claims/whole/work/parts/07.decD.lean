theorem dL_stall_0 : decode cL_stall 0 = .ok (.aload 5, 2) := by decide +kernel
theorem dL_stall_2 : decode cL_stall 2 = .ok (.iconst 0, 1) := by decide +kernel
theorem dL_stall_3 : decode cL_stall 3 = .ok (.aload_n 0, 1) := by decide +kernel
theorem dL_stall_4 : decode cL_stall 4 = .ok (.iload_n 1, 1) := by decide +kernel
theorem dL_stall_5 : decode cL_stall 5 = .ok (.iload_n 2, 1) := by decide +kernel
theorem dL_stall_6 : decode cL_stall 6 = .ok (.iload_n 3, 1) := by decide +kernel
theorem dL_stall_7 : decode cL_stall 7 = .ok (.iload 4, 2) := by decide +kernel
theorem dL_stall_9 : decode cL_stall 9 = .ok (.invokevirtual 7, 3) := by decide +kernel
theorem dL_stall_12 : decode cL_stall 12 = .ok (.i2l, 1) := by decide +kernel
theorem dL_stall_13 : decode cL_stall 13 = .ok (.lastore, 1) := by decide +kernel
theorem dL_stall_14 : decode cL_stall 14 = .ok (.goto 11, 3) := by decide +kernel
theorem dL_stall_17 : decode cL_stall 17 = .ok (.astore 6, 2) := by decide +kernel
theorem dL_stall_19 : decode cL_stall 19 = .ok (.iconst 1, 1) := by decide +kernel
theorem dL_stall_20 : decode cL_stall 20 = .ok (.ireturn, 1) := by decide +kernel
theorem dL_stall_21 : decode cL_stall 21 = .ok (.astore 6, 2) := by decide +kernel
theorem dL_stall_23 : decode cL_stall 23 = .ok (.iconst 2, 1) := by decide +kernel
theorem dL_stall_24 : decode cL_stall 24 = .ok (.ireturn, 1) := by decide +kernel
theorem dL_stall_25 : decode cL_stall 25 = .ok (.iconst 0, 1) := by decide +kernel
theorem dL_stall_26 : decode cL_stall 26 = .ok (.ireturn, 1) := by decide +kernel
theorem dL_plug_0 : decode cL_plug 0 = .ok (.aload_n 3, 1) := by decide +kernel
theorem dL_plug_1 : decode cL_plug 1 = .ok (.iconst 0, 1) := by decide +kernel
theorem dL_plug_2 : decode cL_plug 2 = .ok (.aload_n 0, 1) := by decide +kernel
theorem dL_plug_3 : decode cL_plug 3 = .ok (.iload_n 1, 1) := by decide +kernel
theorem dL_plug_4 : decode cL_plug 4 = .ok (.iload_n 2, 1) := by decide +kernel
theorem dL_plug_5 : decode cL_plug 5 = .ok (.invokevirtual 17, 3) := by decide +kernel
theorem dL_plug_8 : decode cL_plug 8 = .ok (.i2l, 1) := by decide +kernel
theorem dL_plug_9 : decode cL_plug 9 = .ok (.lastore, 1) := by decide +kernel
theorem dL_plug_10 : decode cL_plug 10 = .ok (.goto 15, 3) := by decide +kernel
theorem dL_plug_13 : decode cL_plug 13 = .ok (.astore 4, 2) := by decide +kernel
theorem dL_plug_15 : decode cL_plug 15 = .ok (.iconst 1, 1) := by decide +kernel
theorem dL_plug_16 : decode cL_plug 16 = .ok (.ireturn, 1) := by decide +kernel
theorem dL_plug_17 : decode cL_plug 17 = .ok (.astore 4, 2) := by decide +kernel
theorem dL_plug_19 : decode cL_plug 19 = .ok (.iconst 2, 1) := by decide +kernel
theorem dL_plug_20 : decode cL_plug 20 = .ok (.ireturn, 1) := by decide +kernel
theorem dL_plug_21 : decode cL_plug 21 = .ok (.astore 4, 2) := by decide +kernel
theorem dL_plug_23 : decode cL_plug 23 = .ok (.iconst 3, 1) := by decide +kernel
theorem dL_plug_24 : decode cL_plug 24 = .ok (.ireturn, 1) := by decide +kernel
theorem dL_plug_25 : decode cL_plug 25 = .ok (.iconst 0, 1) := by decide +kernel
theorem dL_plug_26 : decode cL_plug 26 = .ok (.ireturn, 1) := by decide +kernel
theorem dL_pull_0 : decode cL_pull 0 = .ok (.aload_n 2, 1) := by decide +kernel
theorem dL_pull_1 : decode cL_pull 1 = .ok (.iconst 0, 1) := by decide +kernel
theorem dL_pull_2 : decode cL_pull 2 = .ok (.aload_n 0, 1) := by decide +kernel
theorem dL_pull_3 : decode cL_pull 3 = .ok (.iload_n 1, 1) := by decide +kernel
theorem dL_pull_4 : decode cL_pull 4 = .ok (.invokevirtual 23, 3) := by decide +kernel
theorem dL_pull_7 : decode cL_pull 7 = .ok (.i2l, 1) := by decide +kernel
theorem dL_pull_8 : decode cL_pull 8 = .ok (.lastore, 1) := by decide +kernel
theorem dL_pull_9 : decode cL_pull 9 = .ok (.goto 9, 3) := by decide +kernel
theorem dL_pull_12 : decode cL_pull 12 = .ok (.astore_n 3, 1) := by decide +kernel
theorem dL_pull_13 : decode cL_pull 13 = .ok (.iconst 1, 1) := by decide +kernel
theorem dL_pull_14 : decode cL_pull 14 = .ok (.ireturn, 1) := by decide +kernel
theorem dL_pull_15 : decode cL_pull 15 = .ok (.astore_n 3, 1) := by decide +kernel
theorem dL_pull_16 : decode cL_pull 16 = .ok (.iconst 2, 1) := by decide +kernel
theorem dL_pull_17 : decode cL_pull 17 = .ok (.ireturn, 1) := by decide +kernel
theorem dL_pull_18 : decode cL_pull 18 = .ok (.iconst 0, 1) := by decide +kernel
theorem dL_pull_19 : decode cL_pull 19 = .ok (.ireturn, 1) := by decide +kernel
theorem dL_shed_0 : decode cL_shed 0 = .ok (.aload_n 2, 1) := by decide +kernel
theorem dL_shed_1 : decode cL_shed 1 = .ok (.iconst 0, 1) := by decide +kernel
theorem dL_shed_2 : decode cL_shed 2 = .ok (.aload_n 0, 1) := by decide +kernel
theorem dL_shed_3 : decode cL_shed 3 = .ok (.iload_n 1, 1) := by decide +kernel
theorem dL_shed_4 : decode cL_shed 4 = .ok (.invokevirtual 27, 3) := by decide +kernel
theorem dL_shed_7 : decode cL_shed 7 = .ok (.i2l, 1) := by decide +kernel
theorem dL_shed_8 : decode cL_shed 8 = .ok (.lastore, 1) := by decide +kernel
theorem dL_shed_9 : decode cL_shed 9 = .ok (.goto 6, 3) := by decide +kernel
theorem dL_shed_12 : decode cL_shed 12 = .ok (.astore_n 3, 1) := by decide +kernel
theorem dL_shed_13 : decode cL_shed 13 = .ok (.iconst 1, 1) := by decide +kernel
theorem dL_shed_14 : decode cL_shed 14 = .ok (.ireturn, 1) := by decide +kernel
theorem dL_shed_15 : decode cL_shed 15 = .ok (.iconst 0, 1) := by decide +kernel
theorem dL_shed_16 : decode cL_shed 16 = .ok (.ireturn, 1) := by decide +kernel
theorem dL_bound_0 : decode cL_bound 0 = .ok (.aload_n 3, 1) := by decide +kernel
theorem dL_bound_1 : decode cL_bound 1 = .ok (.iconst 0, 1) := by decide +kernel
theorem dL_bound_2 : decode cL_bound 2 = .ok (.aload_n 0, 1) := by decide +kernel
theorem dL_bound_3 : decode cL_bound 3 = .ok (.iload_n 1, 1) := by decide +kernel
theorem dL_bound_4 : decode cL_bound 4 = .ok (.iload_n 2, 1) := by decide +kernel
theorem dL_bound_5 : decode cL_bound 5 = .ok (.invokevirtual 30, 3) := by decide +kernel
theorem dL_bound_8 : decode cL_bound 8 = .ok (.i2l, 1) := by decide +kernel
theorem dL_bound_9 : decode cL_bound 9 = .ok (.lastore, 1) := by decide +kernel
theorem dL_bound_10 : decode cL_bound 10 = .ok (.goto 7, 3) := by decide +kernel
theorem dL_bound_13 : decode cL_bound 13 = .ok (.astore 4, 2) := by decide +kernel
theorem dL_bound_15 : decode cL_bound 15 = .ok (.iconst 1, 1) := by decide +kernel
theorem dL_bound_16 : decode cL_bound 16 = .ok (.ireturn, 1) := by decide +kernel
theorem dL_bound_17 : decode cL_bound 17 = .ok (.iconst 0, 1) := by decide +kernel
theorem dL_bound_18 : decode cL_bound 18 = .ok (.ireturn, 1) := by decide +kernel
theorem dL_reset_0 : decode cL_reset 0 = .ok (.aload_n 2, 1) := by decide +kernel
theorem dL_reset_1 : decode cL_reset 1 = .ok (.iconst 0, 1) := by decide +kernel
theorem dL_reset_2 : decode cL_reset 2 = .ok (.aload_n 0, 1) := by decide +kernel
theorem dL_reset_3 : decode cL_reset 3 = .ok (.iload_n 1, 1) := by decide +kernel
theorem dL_reset_4 : decode cL_reset 4 = .ok (.invokevirtual 33, 3) := by decide +kernel
theorem dL_reset_7 : decode cL_reset 7 = .ok (.i2l, 1) := by decide +kernel
theorem dL_reset_8 : decode cL_reset 8 = .ok (.lastore, 1) := by decide +kernel
theorem dL_reset_9 : decode cL_reset 9 = .ok (.goto 9, 3) := by decide +kernel
theorem dL_reset_12 : decode cL_reset 12 = .ok (.astore_n 3, 1) := by decide +kernel
theorem dL_reset_13 : decode cL_reset 13 = .ok (.iconst 1, 1) := by decide +kernel
theorem dL_reset_14 : decode cL_reset 14 = .ok (.ireturn, 1) := by decide +kernel
theorem dL_reset_15 : decode cL_reset 15 = .ok (.astore_n 3, 1) := by decide +kernel
theorem dL_reset_16 : decode cL_reset 16 = .ok (.iconst 2, 1) := by decide +kernel
theorem dL_reset_17 : decode cL_reset 17 = .ok (.ireturn, 1) := by decide +kernel
theorem dL_reset_18 : decode cL_reset 18 = .ok (.iconst 0, 1) := by decide +kernel
theorem dL_reset_19 : decode cL_reset 19 = .ok (.ireturn, 1) := by decide +kernel
theorem dL_over_0 : decode cL_over 0 = .ok (.aload_n 2, 1) := by decide +kernel
theorem dL_over_1 : decode cL_over 1 = .ok (.iconst 0, 1) := by decide +kernel
theorem dL_over_2 : decode cL_over 2 = .ok (.aload_n 0, 1) := by decide +kernel
theorem dL_over_3 : decode cL_over 3 = .ok (.iload_n 1, 1) := by decide +kernel
theorem dL_over_4 : decode cL_over 4 = .ok (.invokevirtual 36, 3) := by decide +kernel
theorem dL_over_7 : decode cL_over 7 = .ok (.i2l, 1) := by decide +kernel
theorem dL_over_8 : decode cL_over 8 = .ok (.lastore, 1) := by decide +kernel
theorem dL_over_9 : decode cL_over 9 = .ok (.goto 6, 3) := by decide +kernel
theorem dL_over_12 : decode cL_over 12 = .ok (.astore_n 3, 1) := by decide +kernel
theorem dL_over_13 : decode cL_over 13 = .ok (.iconst 1, 1) := by decide +kernel
theorem dL_over_14 : decode cL_over 14 = .ok (.ireturn, 1) := by decide +kernel
theorem dL_over_15 : decode cL_over 15 = .ok (.iconst 0, 1) := by decide +kernel
theorem dL_over_16 : decode cL_over 16 = .ok (.ireturn, 1) := by decide +kernel
theorem dL_pass_0 : decode cL_pass 0 = .ok (.aload_n 2, 1) := by decide +kernel
theorem dL_pass_1 : decode cL_pass 1 = .ok (.iconst 0, 1) := by decide +kernel
theorem dL_pass_2 : decode cL_pass 2 = .ok (.aload_n 0, 1) := by decide +kernel
theorem dL_pass_3 : decode cL_pass 3 = .ok (.iload_n 1, 1) := by decide +kernel
theorem dL_pass_4 : decode cL_pass 4 = .ok (.invokevirtual 39, 3) := by decide +kernel
theorem dL_pass_7 : decode cL_pass 7 = .ok (.i2l, 1) := by decide +kernel
theorem dL_pass_8 : decode cL_pass 8 = .ok (.lastore, 1) := by decide +kernel
theorem dL_pass_9 : decode cL_pass 9 = .ok (.goto 9, 3) := by decide +kernel
theorem dL_pass_12 : decode cL_pass 12 = .ok (.astore_n 3, 1) := by decide +kernel
theorem dL_pass_13 : decode cL_pass 13 = .ok (.iconst 1, 1) := by decide +kernel
theorem dL_pass_14 : decode cL_pass 14 = .ok (.ireturn, 1) := by decide +kernel
theorem dL_pass_15 : decode cL_pass 15 = .ok (.astore_n 3, 1) := by decide +kernel
theorem dL_pass_16 : decode cL_pass 16 = .ok (.iconst 2, 1) := by decide +kernel
theorem dL_pass_17 : decode cL_pass 17 = .ok (.ireturn, 1) := by decide +kernel
theorem dL_pass_18 : decode cL_pass 18 = .ok (.iconst 0, 1) := by decide +kernel
theorem dL_pass_19 : decode cL_pass 19 = .ok (.ireturn, 1) := by decide +kernel
theorem dL_set_0 : decode cL_set 0 = .ok (.aload_n 3, 1) := by decide +kernel
theorem dL_set_1 : decode cL_set 1 = .ok (.iconst 0, 1) := by decide +kernel
theorem dL_set_2 : decode cL_set 2 = .ok (.aload_n 0, 1) := by decide +kernel
theorem dL_set_3 : decode cL_set 3 = .ok (.iload_n 1, 1) := by decide +kernel
theorem dL_set_4 : decode cL_set 4 = .ok (.iload_n 2, 1) := by decide +kernel
theorem dL_set_5 : decode cL_set 5 = .ok (.invokevirtual 42, 3) := by decide +kernel
theorem dL_set_8 : decode cL_set 8 = .ok (.i2l, 1) := by decide +kernel
theorem dL_set_9 : decode cL_set 9 = .ok (.lastore, 1) := by decide +kernel
theorem dL_set_10 : decode cL_set 10 = .ok (.goto 11, 3) := by decide +kernel
theorem dL_set_13 : decode cL_set 13 = .ok (.astore 4, 2) := by decide +kernel
theorem dL_set_15 : decode cL_set 15 = .ok (.iconst 1, 1) := by decide +kernel
theorem dL_set_16 : decode cL_set 16 = .ok (.ireturn, 1) := by decide +kernel
theorem dL_set_17 : decode cL_set 17 = .ok (.astore 4, 2) := by decide +kernel
theorem dL_set_19 : decode cL_set 19 = .ok (.iconst 2, 1) := by decide +kernel
theorem dL_set_20 : decode cL_set 20 = .ok (.ireturn, 1) := by decide +kernel
theorem dL_set_21 : decode cL_set 21 = .ok (.iconst 0, 1) := by decide +kernel
theorem dL_set_22 : decode cL_set 22 = .ok (.ireturn, 1) := by decide +kernel
theorem dL_append_0 : decode cL_append 0 = .ok (.aload_n 2, 1) := by decide +kernel
theorem dL_append_1 : decode cL_append 1 = .ok (.iconst 0, 1) := by decide +kernel
theorem dL_append_2 : decode cL_append 2 = .ok (.aload_n 0, 1) := by decide +kernel
theorem dL_append_3 : decode cL_append 3 = .ok (.iload_n 1, 1) := by decide +kernel
theorem dL_append_4 : decode cL_append 4 = .ok (.invokevirtual 45, 3) := by decide +kernel
theorem dL_append_7 : decode cL_append 7 = .ok (.i2l, 1) := by decide +kernel
theorem dL_append_8 : decode cL_append 8 = .ok (.lastore, 1) := by decide +kernel
theorem dL_append_9 : decode cL_append 9 = .ok (.goto 9, 3) := by decide +kernel
theorem dL_append_12 : decode cL_append 12 = .ok (.astore_n 3, 1) := by decide +kernel
theorem dL_append_13 : decode cL_append 13 = .ok (.iconst 1, 1) := by decide +kernel
theorem dL_append_14 : decode cL_append 14 = .ok (.ireturn, 1) := by decide +kernel
theorem dL_append_15 : decode cL_append 15 = .ok (.astore_n 3, 1) := by decide +kernel
theorem dL_append_16 : decode cL_append 16 = .ok (.iconst 2, 1) := by decide +kernel
theorem dL_append_17 : decode cL_append 17 = .ok (.ireturn, 1) := by decide +kernel
theorem dL_append_18 : decode cL_append 18 = .ok (.iconst 0, 1) := by decide +kernel
theorem dL_append_19 : decode cL_append 19 = .ok (.ireturn, 1) := by decide +kernel
theorem dL_open_0 : decode cL_open 0 = .ok (.aload_n 1, 1) := by decide +kernel
theorem dL_open_1 : decode cL_open 1 = .ok (.iconst 0, 1) := by decide +kernel
theorem dL_open_2 : decode cL_open 2 = .ok (.aload_n 0, 1) := by decide +kernel
theorem dL_open_3 : decode cL_open 3 = .ok (.invokevirtual 48, 3) := by decide +kernel
theorem dL_open_6 : decode cL_open 6 = .ok (.i2l, 1) := by decide +kernel
theorem dL_open_7 : decode cL_open 7 = .ok (.lastore, 1) := by decide +kernel
theorem dL_open_8 : decode cL_open 8 = .ok (.goto 6, 3) := by decide +kernel
theorem dL_open_11 : decode cL_open 11 = .ok (.astore_n 2, 1) := by decide +kernel
theorem dL_open_12 : decode cL_open 12 = .ok (.iconst 1, 1) := by decide +kernel
theorem dL_open_13 : decode cL_open 13 = .ok (.ireturn, 1) := by decide +kernel
theorem dL_open_14 : decode cL_open 14 = .ok (.iconst 0, 1) := by decide +kernel
theorem dL_open_15 : decode cL_open 15 = .ok (.ireturn, 1) := by decide +kernel
theorem dL_keep_0 : decode cL_keep 0 = .ok (.aload_n 2, 1) := by decide +kernel
theorem dL_keep_1 : decode cL_keep 1 = .ok (.iconst 0, 1) := by decide +kernel
theorem dL_keep_2 : decode cL_keep 2 = .ok (.aload_n 0, 1) := by decide +kernel
theorem dL_keep_3 : decode cL_keep 3 = .ok (.iload_n 1, 1) := by decide +kernel
theorem dL_keep_4 : decode cL_keep 4 = .ok (.invokevirtual 52, 3) := by decide +kernel
theorem dL_keep_7 : decode cL_keep 7 = .ok (.i2l, 1) := by decide +kernel
theorem dL_keep_8 : decode cL_keep 8 = .ok (.lastore, 1) := by decide +kernel
theorem dL_keep_9 : decode cL_keep 9 = .ok (.goto 6, 3) := by decide +kernel
theorem dL_keep_12 : decode cL_keep 12 = .ok (.astore_n 3, 1) := by decide +kernel
theorem dL_keep_13 : decode cL_keep 13 = .ok (.iconst 1, 1) := by decide +kernel
theorem dL_keep_14 : decode cL_keep 14 = .ok (.ireturn, 1) := by decide +kernel
theorem dL_keep_15 : decode cL_keep 15 = .ok (.iconst 0, 1) := by decide +kernel
theorem dL_keep_16 : decode cL_keep 16 = .ok (.ireturn, 1) := by decide +kernel
theorem dL_goBack_0 : decode cL_goBack 0 = .ok (.aload_n 2, 1) := by decide +kernel
theorem dL_goBack_1 : decode cL_goBack 1 = .ok (.iconst 0, 1) := by decide +kernel
theorem dL_goBack_2 : decode cL_goBack 2 = .ok (.aload_n 0, 1) := by decide +kernel
theorem dL_goBack_3 : decode cL_goBack 3 = .ok (.iload_n 1, 1) := by decide +kernel
theorem dL_goBack_4 : decode cL_goBack 4 = .ok (.invokevirtual 55, 3) := by decide +kernel
theorem dL_goBack_7 : decode cL_goBack 7 = .ok (.i2l, 1) := by decide +kernel
theorem dL_goBack_8 : decode cL_goBack 8 = .ok (.lastore, 1) := by decide +kernel
theorem dL_goBack_9 : decode cL_goBack 9 = .ok (.goto 9, 3) := by decide +kernel
theorem dL_goBack_12 : decode cL_goBack 12 = .ok (.astore_n 3, 1) := by decide +kernel
theorem dL_goBack_13 : decode cL_goBack 13 = .ok (.iconst 1, 1) := by decide +kernel
theorem dL_goBack_14 : decode cL_goBack 14 = .ok (.ireturn, 1) := by decide +kernel
theorem dL_goBack_15 : decode cL_goBack 15 = .ok (.astore_n 3, 1) := by decide +kernel
theorem dL_goBack_16 : decode cL_goBack 16 = .ok (.iconst 2, 1) := by decide +kernel
theorem dL_goBack_17 : decode cL_goBack 17 = .ok (.ireturn, 1) := by decide +kernel
theorem dL_goBack_18 : decode cL_goBack 18 = .ok (.iconst 0, 1) := by decide +kernel
theorem dL_goBack_19 : decode cL_goBack 19 = .ok (.ireturn, 1) := by decide +kernel
theorem dL_undo_0 : decode cL_undo 0 = .ok (.aload_n 1, 1) := by decide +kernel
theorem dL_undo_1 : decode cL_undo 1 = .ok (.iconst 0, 1) := by decide +kernel
theorem dL_undo_2 : decode cL_undo 2 = .ok (.aload_n 0, 1) := by decide +kernel
theorem dL_undo_3 : decode cL_undo 3 = .ok (.invokevirtual 58, 3) := by decide +kernel
theorem dL_undo_6 : decode cL_undo 6 = .ok (.i2l, 1) := by decide +kernel
theorem dL_undo_7 : decode cL_undo 7 = .ok (.lastore, 1) := by decide +kernel
theorem dL_undo_8 : decode cL_undo 8 = .ok (.goto 6, 3) := by decide +kernel
theorem dL_undo_11 : decode cL_undo 11 = .ok (.astore_n 2, 1) := by decide +kernel
theorem dL_undo_12 : decode cL_undo 12 = .ok (.iconst 1, 1) := by decide +kernel
theorem dL_undo_13 : decode cL_undo 13 = .ok (.ireturn, 1) := by decide +kernel
theorem dL_undo_14 : decode cL_undo 14 = .ok (.iconst 0, 1) := by decide +kernel
theorem dL_undo_15 : decode cL_undo 15 = .ok (.ireturn, 1) := by decide +kernel
theorem dL_stallOf_0 : decode cL_stallOf 0 = .ok (.aload_n 3, 1) := by decide +kernel
theorem dL_stallOf_1 : decode cL_stallOf 1 = .ok (.iconst 0, 1) := by decide +kernel
theorem dL_stallOf_2 : decode cL_stallOf 2 = .ok (.aload_n 0, 1) := by decide +kernel
theorem dL_stallOf_3 : decode cL_stallOf 3 = .ok (.iload_n 1, 1) := by decide +kernel
theorem dL_stallOf_4 : decode cL_stallOf 4 = .ok (.iload_n 2, 1) := by decide +kernel
theorem dL_stallOf_5 : decode cL_stallOf 5 = .ok (.invokevirtual 61, 3) := by decide +kernel
theorem dL_stallOf_8 : decode cL_stallOf 8 = .ok (.i2l, 1) := by decide +kernel
theorem dL_stallOf_9 : decode cL_stallOf 9 = .ok (.lastore, 1) := by decide +kernel
theorem dL_stallOf_10 : decode cL_stallOf 10 = .ok (.goto 11, 3) := by decide +kernel
theorem dL_stallOf_13 : decode cL_stallOf 13 = .ok (.astore 4, 2) := by decide +kernel
theorem dL_stallOf_15 : decode cL_stallOf 15 = .ok (.iconst 1, 1) := by decide +kernel
theorem dL_stallOf_16 : decode cL_stallOf 16 = .ok (.ireturn, 1) := by decide +kernel
theorem dL_stallOf_17 : decode cL_stallOf 17 = .ok (.astore 4, 2) := by decide +kernel
theorem dL_stallOf_19 : decode cL_stallOf 19 = .ok (.iconst 2, 1) := by decide +kernel
theorem dL_stallOf_20 : decode cL_stallOf 20 = .ok (.ireturn, 1) := by decide +kernel
theorem dL_stallOf_21 : decode cL_stallOf 21 = .ok (.iconst 0, 1) := by decide +kernel
theorem dL_stallOf_22 : decode cL_stallOf 22 = .ok (.ireturn, 1) := by decide +kernel
theorem dL_breaker_0 : decode cL_breaker 0 = .ok (.aload_n 3, 1) := by decide +kernel
theorem dL_breaker_1 : decode cL_breaker 1 = .ok (.iconst 0, 1) := by decide +kernel
theorem dL_breaker_2 : decode cL_breaker 2 = .ok (.aload_n 0, 1) := by decide +kernel
theorem dL_breaker_3 : decode cL_breaker 3 = .ok (.iload_n 1, 1) := by decide +kernel
theorem dL_breaker_4 : decode cL_breaker 4 = .ok (.iload_n 2, 1) := by decide +kernel
theorem dL_breaker_5 : decode cL_breaker 5 = .ok (.invokevirtual 64, 3) := by decide +kernel
theorem dL_breaker_8 : decode cL_breaker 8 = .ok (.i2l, 1) := by decide +kernel
theorem dL_breaker_9 : decode cL_breaker 9 = .ok (.lastore, 1) := by decide +kernel
theorem dL_breaker_10 : decode cL_breaker 10 = .ok (.goto 7, 3) := by decide +kernel
theorem dL_breaker_13 : decode cL_breaker 13 = .ok (.astore 4, 2) := by decide +kernel
theorem dL_breaker_15 : decode cL_breaker 15 = .ok (.iconst 1, 1) := by decide +kernel
theorem dL_breaker_16 : decode cL_breaker 16 = .ok (.ireturn, 1) := by decide +kernel
theorem dL_breaker_17 : decode cL_breaker 17 = .ok (.iconst 0, 1) := by decide +kernel
theorem dL_breaker_18 : decode cL_breaker 18 = .ok (.ireturn, 1) := by decide +kernel
theorem dL_socket_0 : decode cL_socket 0 = .ok (.aload_n 3, 1) := by decide +kernel
theorem dL_socket_1 : decode cL_socket 1 = .ok (.iconst 0, 1) := by decide +kernel
theorem dL_socket_2 : decode cL_socket 2 = .ok (.aload_n 0, 1) := by decide +kernel
theorem dL_socket_3 : decode cL_socket 3 = .ok (.iload_n 1, 1) := by decide +kernel
theorem dL_socket_4 : decode cL_socket 4 = .ok (.iload_n 2, 1) := by decide +kernel
theorem dL_socket_5 : decode cL_socket 5 = .ok (.invokevirtual 67, 3) := by decide +kernel
theorem dL_socket_8 : decode cL_socket 8 = .ok (.i2l, 1) := by decide +kernel
theorem dL_socket_9 : decode cL_socket 9 = .ok (.lastore, 1) := by decide +kernel
theorem dL_socket_10 : decode cL_socket 10 = .ok (.goto 7, 3) := by decide +kernel
theorem dL_socket_13 : decode cL_socket 13 = .ok (.astore 4, 2) := by decide +kernel
theorem dL_socket_15 : decode cL_socket 15 = .ok (.iconst 1, 1) := by decide +kernel
theorem dL_socket_16 : decode cL_socket 16 = .ok (.ireturn, 1) := by decide +kernel
theorem dL_socket_17 : decode cL_socket 17 = .ok (.iconst 0, 1) := by decide +kernel
theorem dL_socket_18 : decode cL_socket 18 = .ok (.ireturn, 1) := by decide +kernel
theorem dL_count_0 : decode cL_count 0 = .ok (.aload_n 2, 1) := by decide +kernel
theorem dL_count_1 : decode cL_count 1 = .ok (.iconst 0, 1) := by decide +kernel
theorem dL_count_2 : decode cL_count 2 = .ok (.aload_n 0, 1) := by decide +kernel
theorem dL_count_3 : decode cL_count 3 = .ok (.iload_n 1, 1) := by decide +kernel
theorem dL_count_4 : decode cL_count 4 = .ok (.invokevirtual 70, 3) := by decide +kernel
theorem dL_count_7 : decode cL_count 7 = .ok (.i2l, 1) := by decide +kernel
theorem dL_count_8 : decode cL_count 8 = .ok (.lastore, 1) := by decide +kernel
theorem dL_count_9 : decode cL_count 9 = .ok (.goto 6, 3) := by decide +kernel
theorem dL_count_12 : decode cL_count 12 = .ok (.astore_n 3, 1) := by decide +kernel
theorem dL_count_13 : decode cL_count 13 = .ok (.iconst 1, 1) := by decide +kernel
theorem dL_count_14 : decode cL_count 14 = .ok (.ireturn, 1) := by decide +kernel
theorem dL_count_15 : decode cL_count 15 = .ok (.iconst 0, 1) := by decide +kernel
theorem dL_count_16 : decode cL_count 16 = .ok (.ireturn, 1) := by decide +kernel
theorem dL_setting_0 : decode cL_setting 0 = .ok (.aload_n 2, 1) := by decide +kernel
theorem dL_setting_1 : decode cL_setting 1 = .ok (.iconst 0, 1) := by decide +kernel
theorem dL_setting_2 : decode cL_setting 2 = .ok (.aload_n 0, 1) := by decide +kernel
theorem dL_setting_3 : decode cL_setting 3 = .ok (.iload_n 1, 1) := by decide +kernel
theorem dL_setting_4 : decode cL_setting 4 = .ok (.invokevirtual 73, 3) := by decide +kernel
theorem dL_setting_7 : decode cL_setting 7 = .ok (.i2l, 1) := by decide +kernel
theorem dL_setting_8 : decode cL_setting 8 = .ok (.lastore, 1) := by decide +kernel
theorem dL_setting_9 : decode cL_setting 9 = .ok (.goto 6, 3) := by decide +kernel
theorem dL_setting_12 : decode cL_setting 12 = .ok (.astore_n 3, 1) := by decide +kernel
theorem dL_setting_13 : decode cL_setting 13 = .ok (.iconst 1, 1) := by decide +kernel
theorem dL_setting_14 : decode cL_setting 14 = .ok (.ireturn, 1) := by decide +kernel
theorem dL_setting_15 : decode cL_setting 15 = .ok (.iconst 0, 1) := by decide +kernel
theorem dL_setting_16 : decode cL_setting 16 = .ok (.ireturn, 1) := by decide +kernel
theorem dL_ifPlugged_0 : decode cL_ifPlugged 0 = .ok (.aload 5, 2) := by decide +kernel
theorem dL_ifPlugged_2 : decode cL_ifPlugged 2 = .ok (.iconst 0, 1) := by decide +kernel
theorem dL_ifPlugged_3 : decode cL_ifPlugged 3 = .ok (.aload_n 0, 1) := by decide +kernel
theorem dL_ifPlugged_4 : decode cL_ifPlugged 4 = .ok (.iload_n 1, 1) := by decide +kernel
theorem dL_ifPlugged_5 : decode cL_ifPlugged 5 = .ok (.iload_n 2, 1) := by decide +kernel
theorem dL_ifPlugged_6 : decode cL_ifPlugged 6 = .ok (.iload_n 3, 1) := by decide +kernel
theorem dL_ifPlugged_7 : decode cL_ifPlugged 7 = .ok (.iload 4, 2) := by decide +kernel
theorem dL_ifPlugged_9 : decode cL_ifPlugged 9 = .ok (.invokevirtual 76, 3) := by decide +kernel
theorem dL_ifPlugged_12 : decode cL_ifPlugged 12 = .ok (.i2l, 1) := by decide +kernel
theorem dL_ifPlugged_13 : decode cL_ifPlugged 13 = .ok (.lastore, 1) := by decide +kernel
theorem dL_ifPlugged_14 : decode cL_ifPlugged 14 = .ok (.goto 11, 3) := by decide +kernel
theorem dL_ifPlugged_17 : decode cL_ifPlugged 17 = .ok (.astore 6, 2) := by decide +kernel
theorem dL_ifPlugged_19 : decode cL_ifPlugged 19 = .ok (.iconst 1, 1) := by decide +kernel
theorem dL_ifPlugged_20 : decode cL_ifPlugged 20 = .ok (.ireturn, 1) := by decide +kernel
theorem dL_ifPlugged_21 : decode cL_ifPlugged 21 = .ok (.astore 6, 2) := by decide +kernel
theorem dL_ifPlugged_23 : decode cL_ifPlugged 23 = .ok (.iconst 2, 1) := by decide +kernel
theorem dL_ifPlugged_24 : decode cL_ifPlugged 24 = .ok (.ireturn, 1) := by decide +kernel
theorem dL_ifPlugged_25 : decode cL_ifPlugged 25 = .ok (.iconst 0, 1) := by decide +kernel
theorem dL_ifPlugged_26 : decode cL_ifPlugged 26 = .ok (.ireturn, 1) := by decide +kernel
theorem dL_tripsIn_0 : decode cL_tripsIn 0 = .ok (.aload_n 2, 1) := by decide +kernel
theorem dL_tripsIn_1 : decode cL_tripsIn 1 = .ok (.iconst 0, 1) := by decide +kernel
theorem dL_tripsIn_2 : decode cL_tripsIn 2 = .ok (.aload_n 0, 1) := by decide +kernel
theorem dL_tripsIn_3 : decode cL_tripsIn 3 = .ok (.iload_n 1, 1) := by decide +kernel
theorem dL_tripsIn_4 : decode cL_tripsIn 4 = .ok (.invokevirtual 79, 3) := by decide +kernel
theorem dL_tripsIn_7 : decode cL_tripsIn 7 = .ok (.i2l, 1) := by decide +kernel
theorem dL_tripsIn_8 : decode cL_tripsIn 8 = .ok (.lastore, 1) := by decide +kernel
theorem dL_tripsIn_9 : decode cL_tripsIn 9 = .ok (.goto 6, 3) := by decide +kernel
theorem dL_tripsIn_12 : decode cL_tripsIn 12 = .ok (.astore_n 3, 1) := by decide +kernel
theorem dL_tripsIn_13 : decode cL_tripsIn 13 = .ok (.iconst 1, 1) := by decide +kernel
theorem dL_tripsIn_14 : decode cL_tripsIn 14 = .ok (.ireturn, 1) := by decide +kernel
theorem dL_tripsIn_15 : decode cL_tripsIn 15 = .ok (.iconst 0, 1) := by decide +kernel
theorem dL_tripsIn_16 : decode cL_tripsIn 16 = .ok (.ireturn, 1) := by decide +kernel
theorem dL_bestSocket_0 : decode cL_bestSocket 0 = .ok (.aload_n 2, 1) := by decide +kernel
theorem dL_bestSocket_1 : decode cL_bestSocket 1 = .ok (.iconst 0, 1) := by decide +kernel
theorem dL_bestSocket_2 : decode cL_bestSocket 2 = .ok (.aload_n 0, 1) := by decide +kernel
theorem dL_bestSocket_3 : decode cL_bestSocket 3 = .ok (.iload_n 1, 1) := by decide +kernel
theorem dL_bestSocket_4 : decode cL_bestSocket 4 = .ok (.invokevirtual 82, 3) := by decide +kernel
theorem dL_bestSocket_7 : decode cL_bestSocket 7 = .ok (.i2l, 1) := by decide +kernel
theorem dL_bestSocket_8 : decode cL_bestSocket 8 = .ok (.lastore, 1) := by decide +kernel
theorem dL_bestSocket_9 : decode cL_bestSocket 9 = .ok (.goto 6, 3) := by decide +kernel
theorem dL_bestSocket_12 : decode cL_bestSocket 12 = .ok (.astore_n 3, 1) := by decide +kernel
theorem dL_bestSocket_13 : decode cL_bestSocket 13 = .ok (.iconst 1, 1) := by decide +kernel
theorem dL_bestSocket_14 : decode cL_bestSocket 14 = .ok (.ireturn, 1) := by decide +kernel
theorem dL_bestSocket_15 : decode cL_bestSocket 15 = .ok (.iconst 0, 1) := by decide +kernel
theorem dL_bestSocket_16 : decode cL_bestSocket 16 = .ok (.ireturn, 1) := by decide +kernel
theorem dL_leastBound_0 : decode cL_leastBound 0 = .ok (.aload_n 2, 1) := by decide +kernel
theorem dL_leastBound_1 : decode cL_leastBound 1 = .ok (.iconst 0, 1) := by decide +kernel
theorem dL_leastBound_2 : decode cL_leastBound 2 = .ok (.aload_n 0, 1) := by decide +kernel
theorem dL_leastBound_3 : decode cL_leastBound 3 = .ok (.iload_n 1, 1) := by decide +kernel
theorem dL_leastBound_4 : decode cL_leastBound 4 = .ok (.invokevirtual 85, 3) := by decide +kernel
theorem dL_leastBound_7 : decode cL_leastBound 7 = .ok (.i2l, 1) := by decide +kernel
theorem dL_leastBound_8 : decode cL_leastBound 8 = .ok (.lastore, 1) := by decide +kernel
theorem dL_leastBound_9 : decode cL_leastBound 9 = .ok (.goto 6, 3) := by decide +kernel
theorem dL_leastBound_12 : decode cL_leastBound 12 = .ok (.astore_n 3, 1) := by decide +kernel
theorem dL_leastBound_13 : decode cL_leastBound 13 = .ok (.iconst 1, 1) := by decide +kernel
theorem dL_leastBound_14 : decode cL_leastBound 14 = .ok (.ireturn, 1) := by decide +kernel
theorem dL_leastBound_15 : decode cL_leastBound 15 = .ok (.iconst 0, 1) := by decide +kernel
theorem dL_leastBound_16 : decode cL_leastBound 16 = .ok (.ireturn, 1) := by decide +kernel
