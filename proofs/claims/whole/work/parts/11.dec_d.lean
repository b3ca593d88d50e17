theorem d_Law_change_0 : decode method_3_code 0 = .ok (.aload 5, 2) := by decide +kernel
theorem d_Law_change_2 : decode method_3_code 2 = .ok (.iconst 0, 1) := by decide +kernel
theorem d_Law_change_3 : decode method_3_code 3 = .ok (.aload_n 0, 1) := by decide +kernel
theorem d_Law_change_4 : decode method_3_code 4 = .ok (.iload_n 1, 1) := by decide +kernel
theorem d_Law_change_5 : decode method_3_code 5 = .ok (.iload_n 2, 1) := by decide +kernel
theorem d_Law_change_6 : decode method_3_code 6 = .ok (.iload_n 3, 1) := by decide +kernel
theorem d_Law_change_7 : decode method_3_code 7 = .ok (.iload 4, 2) := by decide +kernel
theorem d_Law_change_9 : decode method_3_code 9 = .ok (.invokevirtual 7, 3) := by decide +kernel
theorem d_Law_change_12 : decode method_3_code 12 = .ok (.i2l, 1) := by decide +kernel
theorem d_Law_change_13 : decode method_3_code 13 = .ok (.lastore, 1) := by decide +kernel
theorem d_Law_change_14 : decode method_3_code 14 = .ok (.goto 15, 3) := by decide +kernel
theorem d_Law_change_17 : decode method_3_code 17 = .ok (.astore 6, 2) := by decide +kernel
theorem d_Law_change_19 : decode method_3_code 19 = .ok (.iconst 1, 1) := by decide +kernel
theorem d_Law_change_20 : decode method_3_code 20 = .ok (.ireturn, 1) := by decide +kernel
theorem d_Law_change_21 : decode method_3_code 21 = .ok (.astore 6, 2) := by decide +kernel
theorem d_Law_change_23 : decode method_3_code 23 = .ok (.iconst 2, 1) := by decide +kernel
theorem d_Law_change_24 : decode method_3_code 24 = .ok (.ireturn, 1) := by decide +kernel
theorem d_Law_change_25 : decode method_3_code 25 = .ok (.astore 6, 2) := by decide +kernel
theorem d_Law_change_27 : decode method_3_code 27 = .ok (.iconst 3, 1) := by decide +kernel
theorem d_Law_change_28 : decode method_3_code 28 = .ok (.ireturn, 1) := by decide +kernel
theorem d_Law_change_29 : decode method_3_code 29 = .ok (.iconst 0, 1) := by decide +kernel
theorem d_Law_change_30 : decode method_3_code 30 = .ok (.ireturn, 1) := by decide +kernel
theorem d_Law_commit_0 : decode method_4_code 0 = .ok (.aload_n 1, 1) := by decide +kernel
theorem d_Law_commit_1 : decode method_4_code 1 = .ok (.iconst 0, 1) := by decide +kernel
theorem d_Law_commit_2 : decode method_4_code 2 = .ok (.aload_n 0, 1) := by decide +kernel
theorem d_Law_commit_3 : decode method_4_code 3 = .ok (.invokevirtual 19, 3) := by decide +kernel
theorem d_Law_commit_6 : decode method_4_code 6 = .ok (.i2l, 1) := by decide +kernel
theorem d_Law_commit_7 : decode method_4_code 7 = .ok (.lastore, 1) := by decide +kernel
theorem d_Law_commit_8 : decode method_4_code 8 = .ok (.goto 6, 3) := by decide +kernel
theorem d_Law_commit_11 : decode method_4_code 11 = .ok (.astore_n 2, 1) := by decide +kernel
theorem d_Law_commit_12 : decode method_4_code 12 = .ok (.iconst 1, 1) := by decide +kernel
theorem d_Law_commit_13 : decode method_4_code 13 = .ok (.ireturn, 1) := by decide +kernel
theorem d_Law_commit_14 : decode method_4_code 14 = .ok (.iconst 0, 1) := by decide +kernel
theorem d_Law_commit_15 : decode method_4_code 15 = .ok (.ireturn, 1) := by decide +kernel
theorem d_Law_select_0 : decode method_5_code 0 = .ok (.aload 5, 2) := by decide +kernel
theorem d_Law_select_2 : decode method_5_code 2 = .ok (.iconst 0, 1) := by decide +kernel
theorem d_Law_select_3 : decode method_5_code 3 = .ok (.aload_n 0, 1) := by decide +kernel
theorem d_Law_select_4 : decode method_5_code 4 = .ok (.iload_n 1, 1) := by decide +kernel
theorem d_Law_select_5 : decode method_5_code 5 = .ok (.iload_n 2, 1) := by decide +kernel
theorem d_Law_select_6 : decode method_5_code 6 = .ok (.iload_n 3, 1) := by decide +kernel
theorem d_Law_select_7 : decode method_5_code 7 = .ok (.iload 4, 2) := by decide +kernel
theorem d_Law_select_9 : decode method_5_code 9 = .ok (.invokevirtual 23, 3) := by decide +kernel
theorem d_Law_select_12 : decode method_5_code 12 = .ok (.i2l, 1) := by decide +kernel
theorem d_Law_select_13 : decode method_5_code 13 = .ok (.lastore, 1) := by decide +kernel
theorem d_Law_select_14 : decode method_5_code 14 = .ok (.goto 15, 3) := by decide +kernel
theorem d_Law_select_17 : decode method_5_code 17 = .ok (.astore 6, 2) := by decide +kernel
theorem d_Law_select_19 : decode method_5_code 19 = .ok (.iconst 1, 1) := by decide +kernel
theorem d_Law_select_20 : decode method_5_code 20 = .ok (.ireturn, 1) := by decide +kernel
theorem d_Law_select_21 : decode method_5_code 21 = .ok (.astore 6, 2) := by decide +kernel
theorem d_Law_select_23 : decode method_5_code 23 = .ok (.iconst 2, 1) := by decide +kernel
theorem d_Law_select_24 : decode method_5_code 24 = .ok (.ireturn, 1) := by decide +kernel
theorem d_Law_select_25 : decode method_5_code 25 = .ok (.astore 6, 2) := by decide +kernel
theorem d_Law_select_27 : decode method_5_code 27 = .ok (.iconst 3, 1) := by decide +kernel
theorem d_Law_select_28 : decode method_5_code 28 = .ok (.ireturn, 1) := by decide +kernel
theorem d_Law_select_29 : decode method_5_code 29 = .ok (.iconst 0, 1) := by decide +kernel
theorem d_Law_select_30 : decode method_5_code 30 = .ok (.ireturn, 1) := by decide +kernel
theorem d_Law_project_0 : decode method_6_code 0 = .ok (.aload 4, 2) := by decide +kernel
theorem d_Law_project_2 : decode method_6_code 2 = .ok (.iconst 0, 1) := by decide +kernel
theorem d_Law_project_3 : decode method_6_code 3 = .ok (.aload_n 0, 1) := by decide +kernel
theorem d_Law_project_4 : decode method_6_code 4 = .ok (.iload_n 1, 1) := by decide +kernel
theorem d_Law_project_5 : decode method_6_code 5 = .ok (.iload_n 2, 1) := by decide +kernel
theorem d_Law_project_6 : decode method_6_code 6 = .ok (.iload_n 3, 1) := by decide +kernel
theorem d_Law_project_7 : decode method_6_code 7 = .ok (.invokevirtual 26, 3) := by decide +kernel
theorem d_Law_project_10 : decode method_6_code 10 = .ok (.i2l, 1) := by decide +kernel
theorem d_Law_project_11 : decode method_6_code 11 = .ok (.lastore, 1) := by decide +kernel
theorem d_Law_project_12 : decode method_6_code 12 = .ok (.goto 15, 3) := by decide +kernel
theorem d_Law_project_15 : decode method_6_code 15 = .ok (.astore 5, 2) := by decide +kernel
theorem d_Law_project_17 : decode method_6_code 17 = .ok (.iconst 1, 1) := by decide +kernel
theorem d_Law_project_18 : decode method_6_code 18 = .ok (.ireturn, 1) := by decide +kernel
theorem d_Law_project_19 : decode method_6_code 19 = .ok (.astore 5, 2) := by decide +kernel
theorem d_Law_project_21 : decode method_6_code 21 = .ok (.iconst 2, 1) := by decide +kernel
theorem d_Law_project_22 : decode method_6_code 22 = .ok (.ireturn, 1) := by decide +kernel
theorem d_Law_project_23 : decode method_6_code 23 = .ok (.astore 5, 2) := by decide +kernel
theorem d_Law_project_25 : decode method_6_code 25 = .ok (.iconst 3, 1) := by decide +kernel
theorem d_Law_project_26 : decode method_6_code 26 = .ok (.ireturn, 1) := by decide +kernel
theorem d_Law_project_27 : decode method_6_code 27 = .ok (.iconst 0, 1) := by decide +kernel
theorem d_Law_project_28 : decode method_6_code 28 = .ok (.ireturn, 1) := by decide +kernel
theorem d_Law_join_0 : decode method_7_code 0 = .ok (.aload 5, 2) := by decide +kernel
theorem d_Law_join_2 : decode method_7_code 2 = .ok (.iconst 0, 1) := by decide +kernel
theorem d_Law_join_3 : decode method_7_code 3 = .ok (.aload_n 0, 1) := by decide +kernel
theorem d_Law_join_4 : decode method_7_code 4 = .ok (.iload_n 1, 1) := by decide +kernel
theorem d_Law_join_5 : decode method_7_code 5 = .ok (.iload_n 2, 1) := by decide +kernel
theorem d_Law_join_6 : decode method_7_code 6 = .ok (.iload_n 3, 1) := by decide +kernel
theorem d_Law_join_7 : decode method_7_code 7 = .ok (.iload 4, 2) := by decide +kernel
theorem d_Law_join_9 : decode method_7_code 9 = .ok (.invokevirtual 30, 3) := by decide +kernel
theorem d_Law_join_12 : decode method_7_code 12 = .ok (.i2l, 1) := by decide +kernel
theorem d_Law_join_13 : decode method_7_code 13 = .ok (.lastore, 1) := by decide +kernel
theorem d_Law_join_14 : decode method_7_code 14 = .ok (.goto 15, 3) := by decide +kernel
theorem d_Law_join_17 : decode method_7_code 17 = .ok (.astore 6, 2) := by decide +kernel
theorem d_Law_join_19 : decode method_7_code 19 = .ok (.iconst 1, 1) := by decide +kernel
theorem d_Law_join_20 : decode method_7_code 20 = .ok (.ireturn, 1) := by decide +kernel
theorem d_Law_join_21 : decode method_7_code 21 = .ok (.astore 6, 2) := by decide +kernel
theorem d_Law_join_23 : decode method_7_code 23 = .ok (.iconst 2, 1) := by decide +kernel
theorem d_Law_join_24 : decode method_7_code 24 = .ok (.ireturn, 1) := by decide +kernel
theorem d_Law_join_25 : decode method_7_code 25 = .ok (.astore 6, 2) := by decide +kernel
theorem d_Law_join_27 : decode method_7_code 27 = .ok (.iconst 3, 1) := by decide +kernel
theorem d_Law_join_28 : decode method_7_code 28 = .ok (.ireturn, 1) := by decide +kernel
theorem d_Law_join_29 : decode method_7_code 29 = .ok (.iconst 0, 1) := by decide +kernel
theorem d_Law_join_30 : decode method_7_code 30 = .ok (.ireturn, 1) := by decide +kernel
theorem d_Law_union_0 : decode method_8_code 0 = .ok (.aload_n 3, 1) := by decide +kernel
theorem d_Law_union_1 : decode method_8_code 1 = .ok (.iconst 0, 1) := by decide +kernel
theorem d_Law_union_2 : decode method_8_code 2 = .ok (.aload_n 0, 1) := by decide +kernel
theorem d_Law_union_3 : decode method_8_code 3 = .ok (.iload_n 1, 1) := by decide +kernel
theorem d_Law_union_4 : decode method_8_code 4 = .ok (.iload_n 2, 1) := by decide +kernel
theorem d_Law_union_5 : decode method_8_code 5 = .ok (.invokevirtual 33, 3) := by decide +kernel
theorem d_Law_union_8 : decode method_8_code 8 = .ok (.i2l, 1) := by decide +kernel
theorem d_Law_union_9 : decode method_8_code 9 = .ok (.lastore, 1) := by decide +kernel
theorem d_Law_union_10 : decode method_8_code 10 = .ok (.goto 15, 3) := by decide +kernel
theorem d_Law_union_13 : decode method_8_code 13 = .ok (.astore 4, 2) := by decide +kernel
theorem d_Law_union_15 : decode method_8_code 15 = .ok (.iconst 1, 1) := by decide +kernel
theorem d_Law_union_16 : decode method_8_code 16 = .ok (.ireturn, 1) := by decide +kernel
theorem d_Law_union_17 : decode method_8_code 17 = .ok (.astore 4, 2) := by decide +kernel
theorem d_Law_union_19 : decode method_8_code 19 = .ok (.iconst 2, 1) := by decide +kernel
theorem d_Law_union_20 : decode method_8_code 20 = .ok (.ireturn, 1) := by decide +kernel
theorem d_Law_union_21 : decode method_8_code 21 = .ok (.astore 4, 2) := by decide +kernel
theorem d_Law_union_23 : decode method_8_code 23 = .ok (.iconst 3, 1) := by decide +kernel
theorem d_Law_union_24 : decode method_8_code 24 = .ok (.ireturn, 1) := by decide +kernel
theorem d_Law_union_25 : decode method_8_code 25 = .ok (.iconst 0, 1) := by decide +kernel
theorem d_Law_union_26 : decode method_8_code 26 = .ok (.ireturn, 1) := by decide +kernel
theorem d_Law_group_0 : decode method_9_code 0 = .ok (.aload 5, 2) := by decide +kernel
theorem d_Law_group_2 : decode method_9_code 2 = .ok (.iconst 0, 1) := by decide +kernel
theorem d_Law_group_3 : decode method_9_code 3 = .ok (.aload_n 0, 1) := by decide +kernel
theorem d_Law_group_4 : decode method_9_code 4 = .ok (.iload_n 1, 1) := by decide +kernel
theorem d_Law_group_5 : decode method_9_code 5 = .ok (.iload_n 2, 1) := by decide +kernel
theorem d_Law_group_6 : decode method_9_code 6 = .ok (.iload_n 3, 1) := by decide +kernel
theorem d_Law_group_7 : decode method_9_code 7 = .ok (.iload 4, 2) := by decide +kernel
theorem d_Law_group_9 : decode method_9_code 9 = .ok (.invokevirtual 37, 3) := by decide +kernel
theorem d_Law_group_12 : decode method_9_code 12 = .ok (.i2l, 1) := by decide +kernel
theorem d_Law_group_13 : decode method_9_code 13 = .ok (.lastore, 1) := by decide +kernel
theorem d_Law_group_14 : decode method_9_code 14 = .ok (.goto 15, 3) := by decide +kernel
theorem d_Law_group_17 : decode method_9_code 17 = .ok (.astore 6, 2) := by decide +kernel
theorem d_Law_group_19 : decode method_9_code 19 = .ok (.iconst 1, 1) := by decide +kernel
theorem d_Law_group_20 : decode method_9_code 20 = .ok (.ireturn, 1) := by decide +kernel
theorem d_Law_group_21 : decode method_9_code 21 = .ok (.astore 6, 2) := by decide +kernel
theorem d_Law_group_23 : decode method_9_code 23 = .ok (.iconst 2, 1) := by decide +kernel
theorem d_Law_group_24 : decode method_9_code 24 = .ok (.ireturn, 1) := by decide +kernel
theorem d_Law_group_25 : decode method_9_code 25 = .ok (.astore 6, 2) := by decide +kernel
theorem d_Law_group_27 : decode method_9_code 27 = .ok (.iconst 3, 1) := by decide +kernel
theorem d_Law_group_28 : decode method_9_code 28 = .ok (.ireturn, 1) := by decide +kernel
theorem d_Law_group_29 : decode method_9_code 29 = .ok (.iconst 0, 1) := by decide +kernel
theorem d_Law_group_30 : decode method_9_code 30 = .ok (.ireturn, 1) := by decide +kernel
theorem d_Law_distinct_0 : decode method_10_code 0 = .ok (.aload_n 2, 1) := by decide +kernel
theorem d_Law_distinct_1 : decode method_10_code 1 = .ok (.iconst 0, 1) := by decide +kernel
theorem d_Law_distinct_2 : decode method_10_code 2 = .ok (.aload_n 0, 1) := by decide +kernel
theorem d_Law_distinct_3 : decode method_10_code 3 = .ok (.iload_n 1, 1) := by decide +kernel
theorem d_Law_distinct_4 : decode method_10_code 4 = .ok (.invokevirtual 40, 3) := by decide +kernel
theorem d_Law_distinct_7 : decode method_10_code 7 = .ok (.i2l, 1) := by decide +kernel
theorem d_Law_distinct_8 : decode method_10_code 8 = .ok (.lastore, 1) := by decide +kernel
theorem d_Law_distinct_9 : decode method_10_code 9 = .ok (.goto 9, 3) := by decide +kernel
theorem d_Law_distinct_12 : decode method_10_code 12 = .ok (.astore_n 3, 1) := by decide +kernel
theorem d_Law_distinct_13 : decode method_10_code 13 = .ok (.iconst 1, 1) := by decide +kernel
theorem d_Law_distinct_14 : decode method_10_code 14 = .ok (.ireturn, 1) := by decide +kernel
theorem d_Law_distinct_15 : decode method_10_code 15 = .ok (.astore_n 3, 1) := by decide +kernel
theorem d_Law_distinct_16 : decode method_10_code 16 = .ok (.iconst 2, 1) := by decide +kernel
theorem d_Law_distinct_17 : decode method_10_code 17 = .ok (.ireturn, 1) := by decide +kernel
theorem d_Law_distinct_18 : decode method_10_code 18 = .ok (.iconst 0, 1) := by decide +kernel
theorem d_Law_distinct_19 : decode method_10_code 19 = .ok (.ireturn, 1) := by decide +kernel
theorem d_Law_drop_0 : decode method_11_code 0 = .ok (.aload_n 1, 1) := by decide +kernel
theorem d_Law_drop_1 : decode method_11_code 1 = .ok (.iconst 0, 1) := by decide +kernel
theorem d_Law_drop_2 : decode method_11_code 2 = .ok (.aload_n 0, 1) := by decide +kernel
theorem d_Law_drop_3 : decode method_11_code 3 = .ok (.invokevirtual 44, 3) := by decide +kernel
theorem d_Law_drop_6 : decode method_11_code 6 = .ok (.i2l, 1) := by decide +kernel
theorem d_Law_drop_7 : decode method_11_code 7 = .ok (.lastore, 1) := by decide +kernel
theorem d_Law_drop_8 : decode method_11_code 8 = .ok (.goto 6, 3) := by decide +kernel
theorem d_Law_drop_11 : decode method_11_code 11 = .ok (.astore_n 2, 1) := by decide +kernel
theorem d_Law_drop_12 : decode method_11_code 12 = .ok (.iconst 1, 1) := by decide +kernel
theorem d_Law_drop_13 : decode method_11_code 13 = .ok (.ireturn, 1) := by decide +kernel
theorem d_Law_drop_14 : decode method_11_code 14 = .ok (.iconst 0, 1) := by decide +kernel
theorem d_Law_drop_15 : decode method_11_code 15 = .ok (.ireturn, 1) := by decide +kernel
theorem d_Law_width_0 : decode method_12_code 0 = .ok (.aload_n 2, 1) := by decide +kernel
theorem d_Law_width_1 : decode method_12_code 1 = .ok (.iconst 0, 1) := by decide +kernel
theorem d_Law_width_2 : decode method_12_code 2 = .ok (.aload_n 0, 1) := by decide +kernel
theorem d_Law_width_3 : decode method_12_code 3 = .ok (.iload_n 1, 1) := by decide +kernel
theorem d_Law_width_4 : decode method_12_code 4 = .ok (.invokevirtual 47, 3) := by decide +kernel
theorem d_Law_width_7 : decode method_12_code 7 = .ok (.i2l, 1) := by decide +kernel
theorem d_Law_width_8 : decode method_12_code 8 = .ok (.lastore, 1) := by decide +kernel
theorem d_Law_width_9 : decode method_12_code 9 = .ok (.goto 6, 3) := by decide +kernel
theorem d_Law_width_12 : decode method_12_code 12 = .ok (.astore_n 3, 1) := by decide +kernel
theorem d_Law_width_13 : decode method_12_code 13 = .ok (.iconst 1, 1) := by decide +kernel
theorem d_Law_width_14 : decode method_12_code 14 = .ok (.ireturn, 1) := by decide +kernel
theorem d_Law_width_15 : decode method_12_code 15 = .ok (.iconst 0, 1) := by decide +kernel
theorem d_Law_width_16 : decode method_12_code 16 = .ok (.ireturn, 1) := by decide +kernel
theorem d_Law_rows_0 : decode method_13_code 0 = .ok (.aload_n 2, 1) := by decide +kernel
theorem d_Law_rows_1 : decode method_13_code 1 = .ok (.iconst 0, 1) := by decide +kernel
theorem d_Law_rows_2 : decode method_13_code 2 = .ok (.aload_n 0, 1) := by decide +kernel
theorem d_Law_rows_3 : decode method_13_code 3 = .ok (.iload_n 1, 1) := by decide +kernel
theorem d_Law_rows_4 : decode method_13_code 4 = .ok (.invokevirtual 50, 3) := by decide +kernel
theorem d_Law_rows_7 : decode method_13_code 7 = .ok (.i2l, 1) := by decide +kernel
theorem d_Law_rows_8 : decode method_13_code 8 = .ok (.lastore, 1) := by decide +kernel
theorem d_Law_rows_9 : decode method_13_code 9 = .ok (.goto 6, 3) := by decide +kernel
theorem d_Law_rows_12 : decode method_13_code 12 = .ok (.astore_n 3, 1) := by decide +kernel
theorem d_Law_rows_13 : decode method_13_code 13 = .ok (.iconst 1, 1) := by decide +kernel
theorem d_Law_rows_14 : decode method_13_code 14 = .ok (.ireturn, 1) := by decide +kernel
theorem d_Law_rows_15 : decode method_13_code 15 = .ok (.iconst 0, 1) := by decide +kernel
theorem d_Law_rows_16 : decode method_13_code 16 = .ok (.ireturn, 1) := by decide +kernel
theorem d_Law_cell_0 : decode method_14_code 0 = .ok (.aload 4, 2) := by decide +kernel
theorem d_Law_cell_2 : decode method_14_code 2 = .ok (.iconst 0, 1) := by decide +kernel
theorem d_Law_cell_3 : decode method_14_code 3 = .ok (.aload_n 0, 1) := by decide +kernel
theorem d_Law_cell_4 : decode method_14_code 4 = .ok (.iload_n 1, 1) := by decide +kernel
theorem d_Law_cell_5 : decode method_14_code 5 = .ok (.iload_n 2, 1) := by decide +kernel
theorem d_Law_cell_6 : decode method_14_code 6 = .ok (.iload_n 3, 1) := by decide +kernel
theorem d_Law_cell_7 : decode method_14_code 7 = .ok (.invokevirtual 53, 3) := by decide +kernel
theorem d_Law_cell_10 : decode method_14_code 10 = .ok (.i2l, 1) := by decide +kernel
theorem d_Law_cell_11 : decode method_14_code 11 = .ok (.lastore, 1) := by decide +kernel
theorem d_Law_cell_12 : decode method_14_code 12 = .ok (.goto 11, 3) := by decide +kernel
theorem d_Law_cell_15 : decode method_14_code 15 = .ok (.astore 5, 2) := by decide +kernel
theorem d_Law_cell_17 : decode method_14_code 17 = .ok (.iconst 1, 1) := by decide +kernel
theorem d_Law_cell_18 : decode method_14_code 18 = .ok (.ireturn, 1) := by decide +kernel
theorem d_Law_cell_19 : decode method_14_code 19 = .ok (.astore 5, 2) := by decide +kernel
theorem d_Law_cell_21 : decode method_14_code 21 = .ok (.iconst 2, 1) := by decide +kernel
theorem d_Law_cell_22 : decode method_14_code 22 = .ok (.ireturn, 1) := by decide +kernel
theorem d_Law_cell_23 : decode method_14_code 23 = .ok (.iconst 0, 1) := by decide +kernel
theorem d_Law_cell_24 : decode method_14_code 24 = .ok (.ireturn, 1) := by decide +kernel
theorem d_Law_times_0 : decode method_15_code 0 = .ok (.aload_n 3, 1) := by decide +kernel
theorem d_Law_times_1 : decode method_15_code 1 = .ok (.iconst 0, 1) := by decide +kernel
theorem d_Law_times_2 : decode method_15_code 2 = .ok (.aload_n 0, 1) := by decide +kernel
theorem d_Law_times_3 : decode method_15_code 3 = .ok (.iload_n 1, 1) := by decide +kernel
theorem d_Law_times_4 : decode method_15_code 4 = .ok (.iload_n 2, 1) := by decide +kernel
theorem d_Law_times_5 : decode method_15_code 5 = .ok (.invokevirtual 58, 3) := by decide +kernel
theorem d_Law_times_8 : decode method_15_code 8 = .ok (.lastore, 1) := by decide +kernel
theorem d_Law_times_9 : decode method_15_code 9 = .ok (.goto 11, 3) := by decide +kernel
theorem d_Law_times_12 : decode method_15_code 12 = .ok (.astore 4, 2) := by decide +kernel
theorem d_Law_times_14 : decode method_15_code 14 = .ok (.iconst 1, 1) := by decide +kernel
theorem d_Law_times_15 : decode method_15_code 15 = .ok (.ireturn, 1) := by decide +kernel
theorem d_Law_times_16 : decode method_15_code 16 = .ok (.astore 4, 2) := by decide +kernel
theorem d_Law_times_18 : decode method_15_code 18 = .ok (.iconst 2, 1) := by decide +kernel
theorem d_Law_times_19 : decode method_15_code 19 = .ok (.ireturn, 1) := by decide +kernel
theorem d_Law_times_20 : decode method_15_code 20 = .ok (.iconst 0, 1) := by decide +kernel
theorem d_Law_times_21 : decode method_15_code 21 = .ok (.ireturn, 1) := by decide +kernel
theorem d_Law_many_0 : decode method_16_code 0 = .ok (.aload 6, 2) := by decide +kernel
theorem d_Law_many_2 : decode method_16_code 2 = .ok (.iconst 0, 1) := by decide +kernel
theorem d_Law_many_3 : decode method_16_code 3 = .ok (.aload_n 0, 1) := by decide +kernel
theorem d_Law_many_4 : decode method_16_code 4 = .ok (.iload_n 1, 1) := by decide +kernel
theorem d_Law_many_5 : decode method_16_code 5 = .ok (.iload_n 2, 1) := by decide +kernel
theorem d_Law_many_6 : decode method_16_code 6 = .ok (.iload_n 3, 1) := by decide +kernel
theorem d_Law_many_7 : decode method_16_code 7 = .ok (.iload 4, 2) := by decide +kernel
theorem d_Law_many_9 : decode method_16_code 9 = .ok (.iload 5, 2) := by decide +kernel
theorem d_Law_many_11 : decode method_16_code 11 = .ok (.invokevirtual 62, 3) := by decide +kernel
theorem d_Law_many_14 : decode method_16_code 14 = .ok (.lastore, 1) := by decide +kernel
theorem d_Law_many_15 : decode method_16_code 15 = .ok (.goto 7, 3) := by decide +kernel
theorem d_Law_many_18 : decode method_16_code 18 = .ok (.astore 7, 2) := by decide +kernel
theorem d_Law_many_20 : decode method_16_code 20 = .ok (.iconst 1, 1) := by decide +kernel
theorem d_Law_many_21 : decode method_16_code 21 = .ok (.ireturn, 1) := by decide +kernel
theorem d_Law_many_22 : decode method_16_code 22 = .ok (.iconst 0, 1) := by decide +kernel
theorem d_Law_many_23 : decode method_16_code 23 = .ok (.ireturn, 1) := by decide +kernel
theorem d_Law_moved_0 : decode method_17_code 0 = .ok (.aload_n 2, 1) := by decide +kernel
theorem d_Law_moved_1 : decode method_17_code 1 = .ok (.iconst 0, 1) := by decide +kernel
theorem d_Law_moved_2 : decode method_17_code 2 = .ok (.aload_n 0, 1) := by decide +kernel
theorem d_Law_moved_3 : decode method_17_code 3 = .ok (.iload_n 1, 1) := by decide +kernel
theorem d_Law_moved_4 : decode method_17_code 4 = .ok (.invokevirtual 66, 3) := by decide +kernel
theorem d_Law_moved_7 : decode method_17_code 7 = .ok (.i2l, 1) := by decide +kernel
theorem d_Law_moved_8 : decode method_17_code 8 = .ok (.lastore, 1) := by decide +kernel
theorem d_Law_moved_9 : decode method_17_code 9 = .ok (.goto 6, 3) := by decide +kernel
theorem d_Law_moved_12 : decode method_17_code 12 = .ok (.astore_n 3, 1) := by decide +kernel
theorem d_Law_moved_13 : decode method_17_code 13 = .ok (.iconst 1, 1) := by decide +kernel
theorem d_Law_moved_14 : decode method_17_code 14 = .ok (.ireturn, 1) := by decide +kernel
theorem d_Law_moved_15 : decode method_17_code 15 = .ok (.iconst 0, 1) := by decide +kernel
theorem d_Law_moved_16 : decode method_17_code 16 = .ok (.ireturn, 1) := by decide +kernel
theorem d_Law_law_0 : decode code 0 = .ok (.new 8, 3) := by decide +kernel
theorem d_Law_law_3 : decode code 3 = .ok (.dup, 1) := by decide +kernel
theorem d_Law_law_4 : decode code 4 = .ok (.invokespecial 69, 3) := by decide +kernel
theorem d_Law_law_7 : decode code 7 = .ok (.astore_n 1, 1) := by decide +kernel
theorem d_Law_law_8 : decode code 8 = .ok (.new 70, 3) := by decide +kernel
theorem d_Law_law_11 : decode code 11 = .ok (.dup, 1) := by decide +kernel
theorem d_Law_law_12 : decode code 12 = .ok (.invokespecial 72, 3) := by decide +kernel
theorem d_Law_law_15 : decode code 15 = .ok (.astore_n 2, 1) := by decide +kernel
theorem d_Law_law_16 : decode code 16 = .ok (.iconst 1, 1) := by decide +kernel
theorem d_Law_law_17 : decode code 17 = .ok (.newarray .long, 2) := by decide +kernel
theorem d_Law_law_19 : decode code 19 = .ok (.astore_n 3, 1) := by decide +kernel
theorem d_Law_law_20 : decode code 20 = .ok (.iconst 0, 1) := by decide +kernel
theorem d_Law_law_21 : decode code 21 = .ok (.istore 4, 2) := by decide +kernel
theorem d_Law_law_23 : decode code 23 = .ok (.iload 4, 2) := by decide +kernel
theorem d_Law_law_25 : decode code 25 = .ok (.aload_n 0, 1) := by decide +kernel
theorem d_Law_law_26 : decode code 26 = .ok (.arraylength, 1) := by decide +kernel
theorem d_Law_law_27 : decode code 27 = .ok (.bipush 6, 2) := by decide +kernel
theorem d_Law_law_29 : decode code 29 = .ok (.isub, 1) := by decide +kernel
theorem d_Law_law_30 : decode code 30 = .ok (.if_icmp .gt 1187, 3) := by decide +kernel
theorem d_Law_law_33 : decode code 33 = .ok (.aload_n 0, 1) := by decide +kernel
theorem d_Law_law_34 : decode code 34 = .ok (.iload 4, 2) := by decide +kernel
theorem d_Law_law_36 : decode code 36 = .ok (.iaload, 1) := by decide +kernel
theorem d_Law_law_37 : decode code 37 = .ok (.bipush 15, 2) := by decide +kernel
theorem d_Law_law_39 : decode code 39 = .ok (.iand, 1) := by decide +kernel
theorem d_Law_law_40 : decode code 40 = .ok (.tableswitch 1171 0 15 #[80, 172, 185, 229, 321, 401, 493, 561, 653, 709, 753, 809, 865, 945, 1012, 1115], 80) := by decide +kernel
theorem d_Law_law_120 : decode code 120 = .ok (.aload_n 1, 1) := by decide +kernel
theorem d_Law_law_121 : decode code 121 = .ok (.aload_n 0, 1) := by decide +kernel
theorem d_Law_law_122 : decode code 122 = .ok (.iload 4, 2) := by decide +kernel
theorem d_Law_law_124 : decode code 124 = .ok (.iconst 1, 1) := by decide +kernel
theorem d_Law_law_125 : decode code 125 = .ok (.iadd, 1) := by decide +kernel
theorem d_Law_law_126 : decode code 126 = .ok (.iaload, 1) := by decide +kernel
theorem d_Law_law_127 : decode code 127 = .ok (.aload_n 0, 1) := by decide +kernel
theorem d_Law_law_128 : decode code 128 = .ok (.iload 4, 2) := by decide +kernel
theorem d_Law_law_130 : decode code 130 = .ok (.iconst 2, 1) := by decide +kernel
theorem d_Law_law_131 : decode code 131 = .ok (.iadd, 1) := by decide +kernel
theorem d_Law_law_132 : decode code 132 = .ok (.iaload, 1) := by decide +kernel
theorem d_Law_law_133 : decode code 133 = .ok (.aload_n 0, 1) := by decide +kernel
theorem d_Law_law_134 : decode code 134 = .ok (.iload 4, 2) := by decide +kernel
theorem d_Law_law_136 : decode code 136 = .ok (.iconst 3, 1) := by decide +kernel
theorem d_Law_law_137 : decode code 137 = .ok (.iadd, 1) := by decide +kernel
theorem d_Law_law_138 : decode code 138 = .ok (.iaload, 1) := by decide +kernel
theorem d_Law_law_139 : decode code 139 = .ok (.aload_n 0, 1) := by decide +kernel
theorem d_Law_law_140 : decode code 140 = .ok (.iload 4, 2) := by decide +kernel
theorem d_Law_law_142 : decode code 142 = .ok (.iconst 4, 1) := by decide +kernel
theorem d_Law_law_143 : decode code 143 = .ok (.iadd, 1) := by decide +kernel
theorem d_Law_law_144 : decode code 144 = .ok (.iaload, 1) := by decide +kernel
theorem d_Law_law_145 : decode code 145 = .ok (.aload_n 3, 1) := by decide +kernel
theorem d_Law_law_146 : decode code 146 = .ok (.invokestatic 73, 3) := by decide +kernel
theorem d_Law_law_149 : decode code 149 = .ok (.istore 5, 2) := by decide +kernel
theorem d_Law_law_151 : decode code 151 = .ok (.aload_n 2, 1) := by decide +kernel
theorem d_Law_law_152 : decode code 152 = .ok (.aload_n 0, 1) := by decide +kernel
theorem d_Law_law_153 : decode code 153 = .ok (.iload 4, 2) := by decide +kernel
theorem d_Law_law_155 : decode code 155 = .ok (.iconst 1, 1) := by decide +kernel
theorem d_Law_law_156 : decode code 156 = .ok (.iadd, 1) := by decide +kernel
theorem d_Law_law_157 : decode code 157 = .ok (.iaload, 1) := by decide +kernel
theorem d_Law_law_158 : decode code 158 = .ok (.aload_n 0, 1) := by decide +kernel
theorem d_Law_law_159 : decode code 159 = .ok (.iload 4, 2) := by decide +kernel
theorem d_Law_law_161 : decode code 161 = .ok (.iconst 2, 1) := by decide +kernel
theorem d_Law_law_162 : decode code 162 = .ok (.iadd, 1) := by decide +kernel
theorem d_Law_law_163 : decode code 163 = .ok (.iaload, 1) := by decide +kernel
theorem d_Law_law_164 : decode code 164 = .ok (.aload_n 0, 1) := by decide +kernel
theorem d_Law_law_165 : decode code 165 = .ok (.iload 4, 2) := by decide +kernel
theorem d_Law_law_167 : decode code 167 = .ok (.iconst 3, 1) := by decide +kernel
theorem d_Law_law_168 : decode code 168 = .ok (.iadd, 1) := by decide +kernel
theorem d_Law_law_169 : decode code 169 = .ok (.iaload, 1) := by decide +kernel
theorem d_Law_law_170 : decode code 170 = .ok (.aload_n 0, 1) := by decide +kernel
theorem d_Law_law_171 : decode code 171 = .ok (.iload 4, 2) := by decide +kernel
theorem d_Law_law_173 : decode code 173 = .ok (.iconst 4, 1) := by decide +kernel
theorem d_Law_law_174 : decode code 174 = .ok (.iadd, 1) := by decide +kernel
theorem d_Law_law_175 : decode code 175 = .ok (.iaload, 1) := by decide +kernel
theorem d_Law_law_176 : decode code 176 = .ok (.invokevirtual 78, 3) := by decide +kernel
theorem d_Law_law_179 : decode code 179 = .ok (.istore 6, 2) := by decide +kernel
theorem d_Law_law_181 : decode code 181 = .ok (.aload_n 2, 1) := by decide +kernel
theorem d_Law_law_182 : decode code 182 = .ok (.invokevirtual 79, 3) := by decide +kernel
theorem d_Law_law_185 : decode code 185 = .ok (.iload 5, 2) := by decide +kernel
theorem d_Law_law_187 : decode code 187 = .ok (.if_icmp .eq 5, 3) := by decide +kernel
theorem d_Law_law_190 : decode code 190 = .ok (.iconst 0, 1) := by decide +kernel
theorem d_Law_law_191 : decode code 191 = .ok (.ireturn, 1) := by decide +kernel
theorem d_Law_law_192 : decode code 192 = .ok (.iload 5, 2) := by decide +kernel
theorem d_Law_law_194 : decode code 194 = .ok (.ifCond .ne 15, 3) := by decide +kernel
theorem d_Law_law_197 : decode code 197 = .ok (.aload_n 3, 1) := by decide +kernel
theorem d_Law_law_198 : decode code 198 = .ok (.iconst 0, 1) := by decide +kernel
theorem d_Law_law_199 : decode code 199 = .ok (.laload, 1) := by decide +kernel
theorem d_Law_law_200 : decode code 200 = .ok (.iload 6, 2) := by decide +kernel
theorem d_Law_law_202 : decode code 202 = .ok (.i2l, 1) := by decide +kernel
theorem d_Law_law_203 : decode code 203 = .ok (.lcmp, 1) := by decide +kernel
theorem d_Law_law_204 : decode code 204 = .ok (.ifCond .eq 5, 3) := by decide +kernel
theorem d_Law_law_207 : decode code 207 = .ok (.iconst 0, 1) := by decide +kernel
theorem d_Law_law_208 : decode code 208 = .ok (.ireturn, 1) := by decide +kernel
theorem d_Law_law_209 : decode code 209 = .ok (.goto 1002, 3) := by decide +kernel
theorem d_Law_law_212 : decode code 212 = .ok (.aload_n 1, 1) := by decide +kernel
theorem d_Law_law_213 : decode code 213 = .ok (.invokevirtual 82, 3) := by decide +kernel
theorem d_Law_law_216 : decode code 216 = .ok (.aload_n 2, 1) := by decide +kernel
theorem d_Law_law_217 : decode code 217 = .ok (.invokevirtual 85, 3) := by decide +kernel
theorem d_Law_law_220 : decode code 220 = .ok (.if_icmp .eq 991, 3) := by decide +kernel
theorem d_Law_law_223 : decode code 223 = .ok (.iconst 0, 1) := by decide +kernel
theorem d_Law_law_224 : decode code 224 = .ok (.ireturn, 1) := by decide +kernel
theorem d_Law_law_225 : decode code 225 = .ok (.aload_n 1, 1) := by decide +kernel
theorem d_Law_law_226 : decode code 226 = .ok (.aload_n 3, 1) := by decide +kernel
theorem d_Law_law_227 : decode code 227 = .ok (.invokestatic 86, 3) := by decide +kernel
theorem d_Law_law_230 : decode code 230 = .ok (.istore 5, 2) := by decide +kernel
theorem d_Law_law_232 : decode code 232 = .ok (.aload_n 2, 1) := by decide +kernel
theorem d_Law_law_233 : decode code 233 = .ok (.invokevirtual 89, 3) := by decide +kernel
theorem d_Law_law_236 : decode code 236 = .ok (.istore 6, 2) := by decide +kernel
theorem d_Law_law_238 : decode code 238 = .ok (.aload_n 2, 1) := by decide +kernel
theorem d_Law_law_239 : decode code 239 = .ok (.invokevirtual 79, 3) := by decide +kernel
theorem d_Law_law_242 : decode code 242 = .ok (.iload 5, 2) := by decide +kernel
theorem d_Law_law_244 : decode code 244 = .ok (.if_icmp .eq 5, 3) := by decide +kernel
theorem d_Law_law_247 : decode code 247 = .ok (.iconst 0, 1) := by decide +kernel
theorem d_Law_law_248 : decode code 248 = .ok (.ireturn, 1) := by decide +kernel
theorem d_Law_law_249 : decode code 249 = .ok (.iload 5, 2) := by decide +kernel
theorem d_Law_law_251 : decode code 251 = .ok (.ifCond .ne 15, 3) := by decide +kernel
theorem d_Law_law_254 : decode code 254 = .ok (.aload_n 3, 1) := by decide +kernel
theorem d_Law_law_255 : decode code 255 = .ok (.iconst 0, 1) := by decide +kernel
theorem d_Law_law_256 : decode code 256 = .ok (.laload, 1) := by decide +kernel
theorem d_Law_law_257 : decode code 257 = .ok (.iload 6, 2) := by decide +kernel
theorem d_Law_law_259 : decode code 259 = .ok (.i2l, 1) := by decide +kernel
theorem d_Law_law_260 : decode code 260 = .ok (.lcmp, 1) := by decide +kernel
theorem d_Law_law_261 : decode code 261 = .ok (.ifCond .eq 5, 3) := by decide +kernel
theorem d_Law_law_264 : decode code 264 = .ok (.iconst 0, 1) := by decide +kernel
theorem d_Law_law_265 : decode code 265 = .ok (.ireturn, 1) := by decide +kernel
theorem d_Law_law_266 : decode code 266 = .ok (.goto 945, 3) := by decide +kernel
theorem d_Law_law_269 : decode code 269 = .ok (.aload_n 1, 1) := by decide +kernel
theorem d_Law_law_270 : decode code 270 = .ok (.aload_n 0, 1) := by decide +kernel
theorem d_Law_law_271 : decode code 271 = .ok (.iload 4, 2) := by decide +kernel
theorem d_Law_law_273 : decode code 273 = .ok (.iconst 1, 1) := by decide +kernel
theorem d_Law_law_274 : decode code 274 = .ok (.iadd, 1) := by decide +kernel
theorem d_Law_law_275 : decode code 275 = .ok (.iaload, 1) := by decide +kernel
theorem d_Law_law_276 : decode code 276 = .ok (.aload_n 0, 1) := by decide +kernel
theorem d_Law_law_277 : decode code 277 = .ok (.iload 4, 2) := by decide +kernel
theorem d_Law_law_279 : decode code 279 = .ok (.iconst 2, 1) := by decide +kernel
theorem d_Law_law_280 : decode code 280 = .ok (.iadd, 1) := by decide +kernel
theorem d_Law_law_281 : decode code 281 = .ok (.iaload, 1) := by decide +kernel
theorem d_Law_law_282 : decode code 282 = .ok (.aload_n 0, 1) := by decide +kernel
theorem d_Law_law_283 : decode code 283 = .ok (.iload 4, 2) := by decide +kernel
theorem d_Law_law_285 : decode code 285 = .ok (.iconst 3, 1) := by decide +kernel
theorem d_Law_law_286 : decode code 286 = .ok (.iadd, 1) := by decide +kernel
theorem d_Law_law_287 : decode code 287 = .ok (.iaload, 1) := by decide +kernel
theorem d_Law_law_288 : decode code 288 = .ok (.aload_n 0, 1) := by decide +kernel
theorem d_Law_law_289 : decode code 289 = .ok (.iload 4, 2) := by decide +kernel
theorem d_Law_law_291 : decode code 291 = .ok (.iconst 4, 1) := by decide +kernel
theorem d_Law_law_292 : decode code 292 = .ok (.iadd, 1) := by decide +kernel
theorem d_Law_law_293 : decode code 293 = .ok (.iaload, 1) := by decide +kernel
theorem d_Law_law_294 : decode code 294 = .ok (.aload_n 3, 1) := by decide +kernel
theorem d_Law_law_295 : decode code 295 = .ok (.invokestatic 90, 3) := by decide +kernel
theorem d_Law_law_298 : decode code 298 = .ok (.istore 5, 2) := by decide +kernel
theorem d_Law_law_300 : decode code 300 = .ok (.aload_n 2, 1) := by decide +kernel
theorem d_Law_law_301 : decode code 301 = .ok (.aload_n 0, 1) := by decide +kernel
theorem d_Law_law_302 : decode code 302 = .ok (.iload 4, 2) := by decide +kernel
theorem d_Law_law_304 : decode code 304 = .ok (.iconst 1, 1) := by decide +kernel
theorem d_Law_law_305 : decode code 305 = .ok (.iadd, 1) := by decide +kernel
theorem d_Law_law_306 : decode code 306 = .ok (.iaload, 1) := by decide +kernel
theorem d_Law_law_307 : decode code 307 = .ok (.aload_n 0, 1) := by decide +kernel
theorem d_Law_law_308 : decode code 308 = .ok (.iload 4, 2) := by decide +kernel
theorem d_Law_law_310 : decode code 310 = .ok (.iconst 2, 1) := by decide +kernel
theorem d_Law_law_311 : decode code 311 = .ok (.iadd, 1) := by decide +kernel
theorem d_Law_law_312 : decode code 312 = .ok (.iaload, 1) := by decide +kernel
theorem d_Law_law_313 : decode code 313 = .ok (.aload_n 0, 1) := by decide +kernel
theorem d_Law_law_314 : decode code 314 = .ok (.iload 4, 2) := by decide +kernel
theorem d_Law_law_316 : decode code 316 = .ok (.iconst 3, 1) := by decide +kernel
theorem d_Law_law_317 : decode code 317 = .ok (.iadd, 1) := by decide +kernel
theorem d_Law_law_318 : decode code 318 = .ok (.iaload, 1) := by decide +kernel
theorem d_Law_law_319 : decode code 319 = .ok (.aload_n 0, 1) := by decide +kernel
theorem d_Law_law_320 : decode code 320 = .ok (.iload 4, 2) := by decide +kernel
theorem d_Law_law_322 : decode code 322 = .ok (.iconst 4, 1) := by decide +kernel
theorem d_Law_law_323 : decode code 323 = .ok (.iadd, 1) := by decide +kernel
theorem d_Law_law_324 : decode code 324 = .ok (.iaload, 1) := by decide +kernel
theorem d_Law_law_325 : decode code 325 = .ok (.invokevirtual 92, 3) := by decide +kernel
theorem d_Law_law_328 : decode code 328 = .ok (.istore 6, 2) := by decide +kernel
theorem d_Law_law_330 : decode code 330 = .ok (.aload_n 2, 1) := by decide +kernel
theorem d_Law_law_331 : decode code 331 = .ok (.invokevirtual 79, 3) := by decide +kernel
theorem d_Law_law_334 : decode code 334 = .ok (.iload 5, 2) := by decide +kernel
theorem d_Law_law_336 : decode code 336 = .ok (.if_icmp .eq 5, 3) := by decide +kernel
theorem d_Law_law_339 : decode code 339 = .ok (.iconst 0, 1) := by decide +kernel
theorem d_Law_law_340 : decode code 340 = .ok (.ireturn, 1) := by decide +kernel
theorem d_Law_law_341 : decode code 341 = .ok (.iload 5, 2) := by decide +kernel
theorem d_Law_law_343 : decode code 343 = .ok (.ifCond .ne 15, 3) := by decide +kernel
theorem d_Law_law_346 : decode code 346 = .ok (.aload_n 3, 1) := by decide +kernel
theorem d_Law_law_347 : decode code 347 = .ok (.iconst 0, 1) := by decide +kernel
theorem d_Law_law_348 : decode code 348 = .ok (.laload, 1) := by decide +kernel
theorem d_Law_law_349 : decode code 349 = .ok (.iload 6, 2) := by decide +kernel
theorem d_Law_law_351 : decode code 351 = .ok (.i2l, 1) := by decide +kernel
theorem d_Law_law_352 : decode code 352 = .ok (.lcmp, 1) := by decide +kernel
theorem d_Law_law_353 : decode code 353 = .ok (.ifCond .eq 5, 3) := by decide +kernel
theorem d_Law_law_356 : decode code 356 = .ok (.iconst 0, 1) := by decide +kernel
theorem d_Law_law_357 : decode code 357 = .ok (.ireturn, 1) := by decide +kernel
theorem d_Law_law_358 : decode code 358 = .ok (.goto 853, 3) := by decide +kernel
theorem d_Law_law_361 : decode code 361 = .ok (.aload_n 1, 1) := by decide +kernel
theorem d_Law_law_362 : decode code 362 = .ok (.aload_n 0, 1) := by decide +kernel
theorem d_Law_law_363 : decode code 363 = .ok (.iload 4, 2) := by decide +kernel
theorem d_Law_law_365 : decode code 365 = .ok (.iconst 1, 1) := by decide +kernel
theorem d_Law_law_366 : decode code 366 = .ok (.iadd, 1) := by decide +kernel
theorem d_Law_law_367 : decode code 367 = .ok (.iaload, 1) := by decide +kernel
theorem d_Law_law_368 : decode code 368 = .ok (.aload_n 0, 1) := by decide +kernel
theorem d_Law_law_369 : decode code 369 = .ok (.iload 4, 2) := by decide +kernel
theorem d_Law_law_371 : decode code 371 = .ok (.iconst 2, 1) := by decide +kernel
theorem d_Law_law_372 : decode code 372 = .ok (.iadd, 1) := by decide +kernel
theorem d_Law_law_373 : decode code 373 = .ok (.iaload, 1) := by decide +kernel
theorem d_Law_law_374 : decode code 374 = .ok (.aload_n 0, 1) := by decide +kernel
theorem d_Law_law_375 : decode code 375 = .ok (.iload 4, 2) := by decide +kernel
theorem d_Law_law_377 : decode code 377 = .ok (.iconst 3, 1) := by decide +kernel
theorem d_Law_law_378 : decode code 378 = .ok (.iadd, 1) := by decide +kernel
theorem d_Law_law_379 : decode code 379 = .ok (.iaload, 1) := by decide +kernel
theorem d_Law_law_380 : decode code 380 = .ok (.aload_n 3, 1) := by decide +kernel
theorem d_Law_law_381 : decode code 381 = .ok (.invokestatic 93, 3) := by decide +kernel
theorem d_Law_law_384 : decode code 384 = .ok (.istore 5, 2) := by decide +kernel
theorem d_Law_law_386 : decode code 386 = .ok (.aload_n 2, 1) := by decide +kernel
theorem d_Law_law_387 : decode code 387 = .ok (.aload_n 0, 1) := by decide +kernel
theorem d_Law_law_388 : decode code 388 = .ok (.iload 4, 2) := by decide +kernel
theorem d_Law_law_390 : decode code 390 = .ok (.iconst 1, 1) := by decide +kernel
theorem d_Law_law_391 : decode code 391 = .ok (.iadd, 1) := by decide +kernel
theorem d_Law_law_392 : decode code 392 = .ok (.iaload, 1) := by decide +kernel
theorem d_Law_law_393 : decode code 393 = .ok (.aload_n 0, 1) := by decide +kernel
theorem d_Law_law_394 : decode code 394 = .ok (.iload 4, 2) := by decide +kernel
theorem d_Law_law_396 : decode code 396 = .ok (.iconst 2, 1) := by decide +kernel
theorem d_Law_law_397 : decode code 397 = .ok (.iadd, 1) := by decide +kernel
theorem d_Law_law_398 : decode code 398 = .ok (.iaload, 1) := by decide +kernel
theorem d_Law_law_399 : decode code 399 = .ok (.aload_n 0, 1) := by decide +kernel
theorem d_Law_law_400 : decode code 400 = .ok (.iload 4, 2) := by decide +kernel
theorem d_Law_law_402 : decode code 402 = .ok (.iconst 3, 1) := by decide +kernel
theorem d_Law_law_403 : decode code 403 = .ok (.iadd, 1) := by decide +kernel
theorem d_Law_law_404 : decode code 404 = .ok (.iaload, 1) := by decide +kernel
theorem d_Law_law_405 : decode code 405 = .ok (.invokevirtual 96, 3) := by decide +kernel
theorem d_Law_law_408 : decode code 408 = .ok (.istore 6, 2) := by decide +kernel
theorem d_Law_law_410 : decode code 410 = .ok (.aload_n 2, 1) := by decide +kernel
theorem d_Law_law_411 : decode code 411 = .ok (.invokevirtual 79, 3) := by decide +kernel
theorem d_Law_law_414 : decode code 414 = .ok (.iload 5, 2) := by decide +kernel
theorem d_Law_law_416 : decode code 416 = .ok (.if_icmp .eq 5, 3) := by decide +kernel
theorem d_Law_law_419 : decode code 419 = .ok (.iconst 0, 1) := by decide +kernel
theorem d_Law_law_420 : decode code 420 = .ok (.ireturn, 1) := by decide +kernel
theorem d_Law_law_421 : decode code 421 = .ok (.iload 5, 2) := by decide +kernel
theorem d_Law_law_423 : decode code 423 = .ok (.ifCond .ne 15, 3) := by decide +kernel
theorem d_Law_law_426 : decode code 426 = .ok (.aload_n 3, 1) := by decide +kernel
theorem d_Law_law_427 : decode code 427 = .ok (.iconst 0, 1) := by decide +kernel
theorem d_Law_law_428 : decode code 428 = .ok (.laload, 1) := by decide +kernel
theorem d_Law_law_429 : decode code 429 = .ok (.iload 6, 2) := by decide +kernel
theorem d_Law_law_431 : decode code 431 = .ok (.i2l, 1) := by decide +kernel
theorem d_Law_law_432 : decode code 432 = .ok (.lcmp, 1) := by decide +kernel
theorem d_Law_law_433 : decode code 433 = .ok (.ifCond .eq 5, 3) := by decide +kernel
theorem d_Law_law_436 : decode code 436 = .ok (.iconst 0, 1) := by decide +kernel
theorem d_Law_law_437 : decode code 437 = .ok (.ireturn, 1) := by decide +kernel
theorem d_Law_law_438 : decode code 438 = .ok (.goto 773, 3) := by decide +kernel
theorem d_Law_law_441 : decode code 441 = .ok (.aload_n 1, 1) := by decide +kernel
theorem d_Law_law_442 : decode code 442 = .ok (.aload_n 0, 1) := by decide +kernel
theorem d_Law_law_443 : decode code 443 = .ok (.iload 4, 2) := by decide +kernel
theorem d_Law_law_445 : decode code 445 = .ok (.iconst 1, 1) := by decide +kernel
theorem d_Law_law_446 : decode code 446 = .ok (.iadd, 1) := by decide +kernel
theorem d_Law_law_447 : decode code 447 = .ok (.iaload, 1) := by decide +kernel
theorem d_Law_law_448 : decode code 448 = .ok (.aload_n 0, 1) := by decide +kernel
theorem d_Law_law_449 : decode code 449 = .ok (.iload 4, 2) := by decide +kernel
theorem d_Law_law_451 : decode code 451 = .ok (.iconst 2, 1) := by decide +kernel
theorem d_Law_law_452 : decode code 452 = .ok (.iadd, 1) := by decide +kernel
theorem d_Law_law_453 : decode code 453 = .ok (.iaload, 1) := by decide +kernel
theorem d_Law_law_454 : decode code 454 = .ok (.aload_n 0, 1) := by decide +kernel
theorem d_Law_law_455 : decode code 455 = .ok (.iload 4, 2) := by decide +kernel
theorem d_Law_law_457 : decode code 457 = .ok (.iconst 3, 1) := by decide +kernel
theorem d_Law_law_458 : decode code 458 = .ok (.iadd, 1) := by decide +kernel
theorem d_Law_law_459 : decode code 459 = .ok (.iaload, 1) := by decide +kernel
theorem d_Law_law_460 : decode code 460 = .ok (.aload_n 0, 1) := by decide +kernel
theorem d_Law_law_461 : decode code 461 = .ok (.iload 4, 2) := by decide +kernel
theorem d_Law_law_463 : decode code 463 = .ok (.iconst 4, 1) := by decide +kernel
theorem d_Law_law_464 : decode code 464 = .ok (.iadd, 1) := by decide +kernel
theorem d_Law_law_465 : decode code 465 = .ok (.iaload, 1) := by decide +kernel
theorem d_Law_law_466 : decode code 466 = .ok (.aload_n 3, 1) := by decide +kernel
theorem d_Law_law_467 : decode code 467 = .ok (.invokestatic 97, 3) := by decide +kernel
theorem d_Law_law_470 : decode code 470 = .ok (.istore 5, 2) := by decide +kernel
theorem d_Law_law_472 : decode code 472 = .ok (.aload_n 2, 1) := by decide +kernel
theorem d_Law_law_473 : decode code 473 = .ok (.aload_n 0, 1) := by decide +kernel
theorem d_Law_law_474 : decode code 474 = .ok (.iload 4, 2) := by decide +kernel
theorem d_Law_law_476 : decode code 476 = .ok (.iconst 1, 1) := by decide +kernel
theorem d_Law_law_477 : decode code 477 = .ok (.iadd, 1) := by decide +kernel
theorem d_Law_law_478 : decode code 478 = .ok (.iaload, 1) := by decide +kernel
theorem d_Law_law_479 : decode code 479 = .ok (.aload_n 0, 1) := by decide +kernel
theorem d_Law_law_480 : decode code 480 = .ok (.iload 4, 2) := by decide +kernel
theorem d_Law_law_482 : decode code 482 = .ok (.iconst 2, 1) := by decide +kernel
theorem d_Law_law_483 : decode code 483 = .ok (.iadd, 1) := by decide +kernel
theorem d_Law_law_484 : decode code 484 = .ok (.iaload, 1) := by decide +kernel
theorem d_Law_law_485 : decode code 485 = .ok (.aload_n 0, 1) := by decide +kernel
theorem d_Law_law_486 : decode code 486 = .ok (.iload 4, 2) := by decide +kernel
theorem d_Law_law_488 : decode code 488 = .ok (.iconst 3, 1) := by decide +kernel
theorem d_Law_law_489 : decode code 489 = .ok (.iadd, 1) := by decide +kernel
theorem d_Law_law_490 : decode code 490 = .ok (.iaload, 1) := by decide +kernel
theorem d_Law_law_491 : decode code 491 = .ok (.aload_n 0, 1) := by decide +kernel
theorem d_Law_law_492 : decode code 492 = .ok (.iload 4, 2) := by decide +kernel
theorem d_Law_law_494 : decode code 494 = .ok (.iconst 4, 1) := by decide +kernel
theorem d_Law_law_495 : decode code 495 = .ok (.iadd, 1) := by decide +kernel
theorem d_Law_law_496 : decode code 496 = .ok (.iaload, 1) := by decide +kernel
theorem d_Law_law_497 : decode code 497 = .ok (.invokevirtual 99, 3) := by decide +kernel
theorem d_Law_law_500 : decode code 500 = .ok (.istore 6, 2) := by decide +kernel
theorem d_Law_law_502 : decode code 502 = .ok (.aload_n 2, 1) := by decide +kernel
theorem d_Law_law_503 : decode code 503 = .ok (.invokevirtual 79, 3) := by decide +kernel
theorem d_Law_law_506 : decode code 506 = .ok (.iload 5, 2) := by decide +kernel
theorem d_Law_law_508 : decode code 508 = .ok (.if_icmp .eq 5, 3) := by decide +kernel
theorem d_Law_law_511 : decode code 511 = .ok (.iconst 0, 1) := by decide +kernel
theorem d_Law_law_512 : decode code 512 = .ok (.ireturn, 1) := by decide +kernel
theorem d_Law_law_513 : decode code 513 = .ok (.iload 5, 2) := by decide +kernel
theorem d_Law_law_515 : decode code 515 = .ok (.ifCond .ne 15, 3) := by decide +kernel
theorem d_Law_law_518 : decode code 518 = .ok (.aload_n 3, 1) := by decide +kernel
theorem d_Law_law_519 : decode code 519 = .ok (.iconst 0, 1) := by decide +kernel
theorem d_Law_law_520 : decode code 520 = .ok (.laload, 1) := by decide +kernel
theorem d_Law_law_521 : decode code 521 = .ok (.iload 6, 2) := by decide +kernel
theorem d_Law_law_523 : decode code 523 = .ok (.i2l, 1) := by decide +kernel
theorem d_Law_law_524 : decode code 524 = .ok (.lcmp, 1) := by decide +kernel
theorem d_Law_law_525 : decode code 525 = .ok (.ifCond .eq 5, 3) := by decide +kernel
theorem d_Law_law_528 : decode code 528 = .ok (.iconst 0, 1) := by decide +kernel
theorem d_Law_law_529 : decode code 529 = .ok (.ireturn, 1) := by decide +kernel
theorem d_Law_law_530 : decode code 530 = .ok (.goto 681, 3) := by decide +kernel
theorem d_Law_law_533 : decode code 533 = .ok (.aload_n 1, 1) := by decide +kernel
theorem d_Law_law_534 : decode code 534 = .ok (.aload_n 0, 1) := by decide +kernel
theorem d_Law_law_535 : decode code 535 = .ok (.iload 4, 2) := by decide +kernel
theorem d_Law_law_537 : decode code 537 = .ok (.iconst 1, 1) := by decide +kernel
theorem d_Law_law_538 : decode code 538 = .ok (.iadd, 1) := by decide +kernel
theorem d_Law_law_539 : decode code 539 = .ok (.iaload, 1) := by decide +kernel
theorem d_Law_law_540 : decode code 540 = .ok (.aload_n 0, 1) := by decide +kernel
theorem d_Law_law_541 : decode code 541 = .ok (.iload 4, 2) := by decide +kernel
theorem d_Law_law_543 : decode code 543 = .ok (.iconst 2, 1) := by decide +kernel
theorem d_Law_law_544 : decode code 544 = .ok (.iadd, 1) := by decide +kernel
theorem d_Law_law_545 : decode code 545 = .ok (.iaload, 1) := by decide +kernel
theorem d_Law_law_546 : decode code 546 = .ok (.aload_n 3, 1) := by decide +kernel
theorem d_Law_law_547 : decode code 547 = .ok (.invokestatic 100, 3) := by decide +kernel
theorem d_Law_law_550 : decode code 550 = .ok (.istore 5, 2) := by decide +kernel
theorem d_Law_law_552 : decode code 552 = .ok (.aload_n 2, 1) := by decide +kernel
theorem d_Law_law_553 : decode code 553 = .ok (.aload_n 0, 1) := by decide +kernel
theorem d_Law_law_554 : decode code 554 = .ok (.iload 4, 2) := by decide +kernel
theorem d_Law_law_556 : decode code 556 = .ok (.iconst 1, 1) := by decide +kernel
theorem d_Law_law_557 : decode code 557 = .ok (.iadd, 1) := by decide +kernel
theorem d_Law_law_558 : decode code 558 = .ok (.iaload, 1) := by decide +kernel
theorem d_Law_law_559 : decode code 559 = .ok (.aload_n 0, 1) := by decide +kernel
theorem d_Law_law_560 : decode code 560 = .ok (.iload 4, 2) := by decide +kernel
theorem d_Law_law_562 : decode code 562 = .ok (.iconst 2, 1) := by decide +kernel
theorem d_Law_law_563 : decode code 563 = .ok (.iadd, 1) := by decide +kernel
theorem d_Law_law_564 : decode code 564 = .ok (.iaload, 1) := by decide +kernel
theorem d_Law_law_565 : decode code 565 = .ok (.invokevirtual 103, 3) := by decide +kernel
theorem d_Law_law_568 : decode code 568 = .ok (.istore 6, 2) := by decide +kernel
theorem d_Law_law_570 : decode code 570 = .ok (.aload_n 2, 1) := by decide +kernel
theorem d_Law_law_571 : decode code 571 = .ok (.invokevirtual 79, 3) := by decide +kernel
theorem d_Law_law_574 : decode code 574 = .ok (.iload 5, 2) := by decide +kernel
theorem d_Law_law_576 : decode code 576 = .ok (.if_icmp .eq 5, 3) := by decide +kernel
theorem d_Law_law_579 : decode code 579 = .ok (.iconst 0, 1) := by decide +kernel
theorem d_Law_law_580 : decode code 580 = .ok (.ireturn, 1) := by decide +kernel
theorem d_Law_law_581 : decode code 581 = .ok (.iload 5, 2) := by decide +kernel
theorem d_Law_law_583 : decode code 583 = .ok (.ifCond .ne 15, 3) := by decide +kernel
theorem d_Law_law_586 : decode code 586 = .ok (.aload_n 3, 1) := by decide +kernel
theorem d_Law_law_587 : decode code 587 = .ok (.iconst 0, 1) := by decide +kernel
theorem d_Law_law_588 : decode code 588 = .ok (.laload, 1) := by decide +kernel
theorem d_Law_law_589 : decode code 589 = .ok (.iload 6, 2) := by decide +kernel
theorem d_Law_law_591 : decode code 591 = .ok (.i2l, 1) := by decide +kernel
theorem d_Law_law_592 : decode code 592 = .ok (.lcmp, 1) := by decide +kernel
theorem d_Law_law_593 : decode code 593 = .ok (.ifCond .eq 5, 3) := by decide +kernel
theorem d_Law_law_596 : decode code 596 = .ok (.iconst 0, 1) := by decide +kernel
theorem d_Law_law_597 : decode code 597 = .ok (.ireturn, 1) := by decide +kernel
theorem d_Law_law_598 : decode code 598 = .ok (.goto 613, 3) := by decide +kernel
theorem d_Law_law_601 : decode code 601 = .ok (.aload_n 1, 1) := by decide +kernel
theorem d_Law_law_602 : decode code 602 = .ok (.aload_n 0, 1) := by decide +kernel
theorem d_Law_law_603 : decode code 603 = .ok (.iload 4, 2) := by decide +kernel
theorem d_Law_law_605 : decode code 605 = .ok (.iconst 1, 1) := by decide +kernel
theorem d_Law_law_606 : decode code 606 = .ok (.iadd, 1) := by decide +kernel
theorem d_Law_law_607 : decode code 607 = .ok (.iaload, 1) := by decide +kernel
theorem d_Law_law_608 : decode code 608 = .ok (.aload_n 0, 1) := by decide +kernel
theorem d_Law_law_609 : decode code 609 = .ok (.iload 4, 2) := by decide +kernel
theorem d_Law_law_611 : decode code 611 = .ok (.iconst 2, 1) := by decide +kernel
theorem d_Law_law_612 : decode code 612 = .ok (.iadd, 1) := by decide +kernel
theorem d_Law_law_613 : decode code 613 = .ok (.iaload, 1) := by decide +kernel
theorem d_Law_law_614 : decode code 614 = .ok (.aload_n 0, 1) := by decide +kernel
theorem d_Law_law_615 : decode code 615 = .ok (.iload 4, 2) := by decide +kernel
theorem d_Law_law_617 : decode code 617 = .ok (.iconst 3, 1) := by decide +kernel
theorem d_Law_law_618 : decode code 618 = .ok (.iadd, 1) := by decide +kernel
theorem d_Law_law_619 : decode code 619 = .ok (.iaload, 1) := by decide +kernel
theorem d_Law_law_620 : decode code 620 = .ok (.aload_n 0, 1) := by decide +kernel
theorem d_Law_law_621 : decode code 621 = .ok (.iload 4, 2) := by decide +kernel
theorem d_Law_law_623 : decode code 623 = .ok (.iconst 4, 1) := by decide +kernel
theorem d_Law_law_624 : decode code 624 = .ok (.iadd, 1) := by decide +kernel
theorem d_Law_law_625 : decode code 625 = .ok (.iaload, 1) := by decide +kernel
theorem d_Law_law_626 : decode code 626 = .ok (.aload_n 3, 1) := by decide +kernel
theorem d_Law_law_627 : decode code 627 = .ok (.invokestatic 104, 3) := by decide +kernel
theorem d_Law_law_630 : decode code 630 = .ok (.istore 5, 2) := by decide +kernel
theorem d_Law_law_632 : decode code 632 = .ok (.aload_n 2, 1) := by decide +kernel
theorem d_Law_law_633 : decode code 633 = .ok (.aload_n 0, 1) := by decide +kernel
theorem d_Law_law_634 : decode code 634 = .ok (.iload 4, 2) := by decide +kernel
theorem d_Law_law_636 : decode code 636 = .ok (.iconst 1, 1) := by decide +kernel
theorem d_Law_law_637 : decode code 637 = .ok (.iadd, 1) := by decide +kernel
theorem d_Law_law_638 : decode code 638 = .ok (.iaload, 1) := by decide +kernel
theorem d_Law_law_639 : decode code 639 = .ok (.aload_n 0, 1) := by decide +kernel
theorem d_Law_law_640 : decode code 640 = .ok (.iload 4, 2) := by decide +kernel
theorem d_Law_law_642 : decode code 642 = .ok (.iconst 2, 1) := by decide +kernel
theorem d_Law_law_643 : decode code 643 = .ok (.iadd, 1) := by decide +kernel
theorem d_Law_law_644 : decode code 644 = .ok (.iaload, 1) := by decide +kernel
theorem d_Law_law_645 : decode code 645 = .ok (.aload_n 0, 1) := by decide +kernel
theorem d_Law_law_646 : decode code 646 = .ok (.iload 4, 2) := by decide +kernel
theorem d_Law_law_648 : decode code 648 = .ok (.iconst 3, 1) := by decide +kernel
theorem d_Law_law_649 : decode code 649 = .ok (.iadd, 1) := by decide +kernel
theorem d_Law_law_650 : decode code 650 = .ok (.iaload, 1) := by decide +kernel
theorem d_Law_law_651 : decode code 651 = .ok (.aload_n 0, 1) := by decide +kernel
theorem d_Law_law_652 : decode code 652 = .ok (.iload 4, 2) := by decide +kernel
theorem d_Law_law_654 : decode code 654 = .ok (.iconst 4, 1) := by decide +kernel
theorem d_Law_law_655 : decode code 655 = .ok (.iadd, 1) := by decide +kernel
theorem d_Law_law_656 : decode code 656 = .ok (.iaload, 1) := by decide +kernel
theorem d_Law_law_657 : decode code 657 = .ok (.invokevirtual 106, 3) := by decide +kernel
theorem d_Law_law_660 : decode code 660 = .ok (.istore 6, 2) := by decide +kernel
theorem d_Law_law_662 : decode code 662 = .ok (.aload_n 2, 1) := by decide +kernel
theorem d_Law_law_663 : decode code 663 = .ok (.invokevirtual 79, 3) := by decide +kernel
theorem d_Law_law_666 : decode code 666 = .ok (.iload 5, 2) := by decide +kernel
theorem d_Law_law_668 : decode code 668 = .ok (.if_icmp .eq 5, 3) := by decide +kernel
theorem d_Law_law_671 : decode code 671 = .ok (.iconst 0, 1) := by decide +kernel
theorem d_Law_law_672 : decode code 672 = .ok (.ireturn, 1) := by decide +kernel
theorem d_Law_law_673 : decode code 673 = .ok (.iload 5, 2) := by decide +kernel
theorem d_Law_law_675 : decode code 675 = .ok (.ifCond .ne 15, 3) := by decide +kernel
theorem d_Law_law_678 : decode code 678 = .ok (.aload_n 3, 1) := by decide +kernel
theorem d_Law_law_679 : decode code 679 = .ok (.iconst 0, 1) := by decide +kernel
theorem d_Law_law_680 : decode code 680 = .ok (.laload, 1) := by decide +kernel
theorem d_Law_law_681 : decode code 681 = .ok (.iload 6, 2) := by decide +kernel
theorem d_Law_law_683 : decode code 683 = .ok (.i2l, 1) := by decide +kernel
theorem d_Law_law_684 : decode code 684 = .ok (.lcmp, 1) := by decide +kernel
theorem d_Law_law_685 : decode code 685 = .ok (.ifCond .eq 5, 3) := by decide +kernel
theorem d_Law_law_688 : decode code 688 = .ok (.iconst 0, 1) := by decide +kernel
theorem d_Law_law_689 : decode code 689 = .ok (.ireturn, 1) := by decide +kernel
theorem d_Law_law_690 : decode code 690 = .ok (.goto 521, 3) := by decide +kernel
theorem d_Law_law_693 : decode code 693 = .ok (.aload_n 1, 1) := by decide +kernel
theorem d_Law_law_694 : decode code 694 = .ok (.aload_n 0, 1) := by decide +kernel
theorem d_Law_law_695 : decode code 695 = .ok (.iload 4, 2) := by decide +kernel
theorem d_Law_law_697 : decode code 697 = .ok (.iconst 1, 1) := by decide +kernel
theorem d_Law_law_698 : decode code 698 = .ok (.iadd, 1) := by decide +kernel
theorem d_Law_law_699 : decode code 699 = .ok (.iaload, 1) := by decide +kernel
theorem d_Law_law_700 : decode code 700 = .ok (.aload_n 3, 1) := by decide +kernel
theorem d_Law_law_701 : decode code 701 = .ok (.invokestatic 107, 3) := by decide +kernel
theorem d_Law_law_704 : decode code 704 = .ok (.istore 5, 2) := by decide +kernel
theorem d_Law_law_706 : decode code 706 = .ok (.aload_n 2, 1) := by decide +kernel
theorem d_Law_law_707 : decode code 707 = .ok (.aload_n 0, 1) := by decide +kernel
theorem d_Law_law_708 : decode code 708 = .ok (.iload 4, 2) := by decide +kernel
theorem d_Law_law_710 : decode code 710 = .ok (.iconst 1, 1) := by decide +kernel
theorem d_Law_law_711 : decode code 711 = .ok (.iadd, 1) := by decide +kernel
theorem d_Law_law_712 : decode code 712 = .ok (.iaload, 1) := by decide +kernel
theorem d_Law_law_713 : decode code 713 = .ok (.invokevirtual 110, 3) := by decide +kernel
theorem d_Law_law_716 : decode code 716 = .ok (.istore 6, 2) := by decide +kernel
theorem d_Law_law_718 : decode code 718 = .ok (.aload_n 2, 1) := by decide +kernel
theorem d_Law_law_719 : decode code 719 = .ok (.invokevirtual 79, 3) := by decide +kernel
theorem d_Law_law_722 : decode code 722 = .ok (.iload 5, 2) := by decide +kernel
theorem d_Law_law_724 : decode code 724 = .ok (.if_icmp .eq 5, 3) := by decide +kernel
theorem d_Law_law_727 : decode code 727 = .ok (.iconst 0, 1) := by decide +kernel
theorem d_Law_law_728 : decode code 728 = .ok (.ireturn, 1) := by decide +kernel
theorem d_Law_law_729 : decode code 729 = .ok (.iload 5, 2) := by decide +kernel
theorem d_Law_law_731 : decode code 731 = .ok (.ifCond .ne 15, 3) := by decide +kernel
theorem d_Law_law_734 : decode code 734 = .ok (.aload_n 3, 1) := by decide +kernel
theorem d_Law_law_735 : decode code 735 = .ok (.iconst 0, 1) := by decide +kernel
theorem d_Law_law_736 : decode code 736 = .ok (.laload, 1) := by decide +kernel
theorem d_Law_law_737 : decode code 737 = .ok (.iload 6, 2) := by decide +kernel
theorem d_Law_law_739 : decode code 739 = .ok (.i2l, 1) := by decide +kernel
theorem d_Law_law_740 : decode code 740 = .ok (.lcmp, 1) := by decide +kernel
theorem d_Law_law_741 : decode code 741 = .ok (.ifCond .eq 5, 3) := by decide +kernel
theorem d_Law_law_744 : decode code 744 = .ok (.iconst 0, 1) := by decide +kernel
theorem d_Law_law_745 : decode code 745 = .ok (.ireturn, 1) := by decide +kernel
theorem d_Law_law_746 : decode code 746 = .ok (.goto 465, 3) := by decide +kernel
theorem d_Law_law_749 : decode code 749 = .ok (.aload_n 1, 1) := by decide +kernel
theorem d_Law_law_750 : decode code 750 = .ok (.aload_n 3, 1) := by decide +kernel
theorem d_Law_law_751 : decode code 751 = .ok (.invokestatic 111, 3) := by decide +kernel
theorem d_Law_law_754 : decode code 754 = .ok (.istore 5, 2) := by decide +kernel
theorem d_Law_law_756 : decode code 756 = .ok (.aload_n 2, 1) := by decide +kernel
theorem d_Law_law_757 : decode code 757 = .ok (.invokevirtual 113, 3) := by decide +kernel
theorem d_Law_law_760 : decode code 760 = .ok (.istore 6, 2) := by decide +kernel
theorem d_Law_law_762 : decode code 762 = .ok (.aload_n 2, 1) := by decide +kernel
theorem d_Law_law_763 : decode code 763 = .ok (.invokevirtual 79, 3) := by decide +kernel
theorem d_Law_law_766 : decode code 766 = .ok (.iload 5, 2) := by decide +kernel
theorem d_Law_law_768 : decode code 768 = .ok (.if_icmp .eq 5, 3) := by decide +kernel
theorem d_Law_law_771 : decode code 771 = .ok (.iconst 0, 1) := by decide +kernel
theorem d_Law_law_772 : decode code 772 = .ok (.ireturn, 1) := by decide +kernel
theorem d_Law_law_773 : decode code 773 = .ok (.iload 5, 2) := by decide +kernel
theorem d_Law_law_775 : decode code 775 = .ok (.ifCond .ne 15, 3) := by decide +kernel
theorem d_Law_law_778 : decode code 778 = .ok (.aload_n 3, 1) := by decide +kernel
theorem d_Law_law_779 : decode code 779 = .ok (.iconst 0, 1) := by decide +kernel
theorem d_Law_law_780 : decode code 780 = .ok (.laload, 1) := by decide +kernel
theorem d_Law_law_781 : decode code 781 = .ok (.iload 6, 2) := by decide +kernel
theorem d_Law_law_783 : decode code 783 = .ok (.i2l, 1) := by decide +kernel
theorem d_Law_law_784 : decode code 784 = .ok (.lcmp, 1) := by decide +kernel
theorem d_Law_law_785 : decode code 785 = .ok (.ifCond .eq 5, 3) := by decide +kernel
theorem d_Law_law_788 : decode code 788 = .ok (.iconst 0, 1) := by decide +kernel
theorem d_Law_law_789 : decode code 789 = .ok (.ireturn, 1) := by decide +kernel
theorem d_Law_law_790 : decode code 790 = .ok (.goto 421, 3) := by decide +kernel
theorem d_Law_law_793 : decode code 793 = .ok (.aload_n 1, 1) := by decide +kernel
theorem d_Law_law_794 : decode code 794 = .ok (.aload_n 0, 1) := by decide +kernel
theorem d_Law_law_795 : decode code 795 = .ok (.iload 4, 2) := by decide +kernel
theorem d_Law_law_797 : decode code 797 = .ok (.iconst 1, 1) := by decide +kernel
theorem d_Law_law_798 : decode code 798 = .ok (.iadd, 1) := by decide +kernel
theorem d_Law_law_799 : decode code 799 = .ok (.iaload, 1) := by decide +kernel
theorem d_Law_law_800 : decode code 800 = .ok (.aload_n 3, 1) := by decide +kernel
theorem d_Law_law_801 : decode code 801 = .ok (.invokestatic 114, 3) := by decide +kernel
theorem d_Law_law_804 : decode code 804 = .ok (.istore 5, 2) := by decide +kernel
theorem d_Law_law_806 : decode code 806 = .ok (.aload_n 2, 1) := by decide +kernel
theorem d_Law_law_807 : decode code 807 = .ok (.aload_n 0, 1) := by decide +kernel
theorem d_Law_law_808 : decode code 808 = .ok (.iload 4, 2) := by decide +kernel
theorem d_Law_law_810 : decode code 810 = .ok (.iconst 1, 1) := by decide +kernel
theorem d_Law_law_811 : decode code 811 = .ok (.iadd, 1) := by decide +kernel
theorem d_Law_law_812 : decode code 812 = .ok (.iaload, 1) := by decide +kernel
theorem d_Law_law_813 : decode code 813 = .ok (.invokevirtual 116, 3) := by decide +kernel
theorem d_Law_law_816 : decode code 816 = .ok (.istore 6, 2) := by decide +kernel
theorem d_Law_law_818 : decode code 818 = .ok (.aload_n 2, 1) := by decide +kernel
theorem d_Law_law_819 : decode code 819 = .ok (.invokevirtual 79, 3) := by decide +kernel
theorem d_Law_law_822 : decode code 822 = .ok (.iload 5, 2) := by decide +kernel
theorem d_Law_law_824 : decode code 824 = .ok (.if_icmp .eq 5, 3) := by decide +kernel
theorem d_Law_law_827 : decode code 827 = .ok (.iconst 0, 1) := by decide +kernel
theorem d_Law_law_828 : decode code 828 = .ok (.ireturn, 1) := by decide +kernel
theorem d_Law_law_829 : decode code 829 = .ok (.iload 5, 2) := by decide +kernel
theorem d_Law_law_831 : decode code 831 = .ok (.ifCond .ne 15, 3) := by decide +kernel
theorem d_Law_law_834 : decode code 834 = .ok (.aload_n 3, 1) := by decide +kernel
theorem d_Law_law_835 : decode code 835 = .ok (.iconst 0, 1) := by decide +kernel
theorem d_Law_law_836 : decode code 836 = .ok (.laload, 1) := by decide +kernel
theorem d_Law_law_837 : decode code 837 = .ok (.iload 6, 2) := by decide +kernel
theorem d_Law_law_839 : decode code 839 = .ok (.i2l, 1) := by decide +kernel
theorem d_Law_law_840 : decode code 840 = .ok (.lcmp, 1) := by decide +kernel
theorem d_Law_law_841 : decode code 841 = .ok (.ifCond .eq 5, 3) := by decide +kernel
theorem d_Law_law_844 : decode code 844 = .ok (.iconst 0, 1) := by decide +kernel
theorem d_Law_law_845 : decode code 845 = .ok (.ireturn, 1) := by decide +kernel
theorem d_Law_law_846 : decode code 846 = .ok (.goto 365, 3) := by decide +kernel
theorem d_Law_law_849 : decode code 849 = .ok (.aload_n 1, 1) := by decide +kernel
theorem d_Law_law_850 : decode code 850 = .ok (.aload_n 0, 1) := by decide +kernel
theorem d_Law_law_851 : decode code 851 = .ok (.iload 4, 2) := by decide +kernel
theorem d_Law_law_853 : decode code 853 = .ok (.iconst 1, 1) := by decide +kernel
theorem d_Law_law_854 : decode code 854 = .ok (.iadd, 1) := by decide +kernel
theorem d_Law_law_855 : decode code 855 = .ok (.iaload, 1) := by decide +kernel
theorem d_Law_law_856 : decode code 856 = .ok (.aload_n 3, 1) := by decide +kernel
theorem d_Law_law_857 : decode code 857 = .ok (.invokestatic 117, 3) := by decide +kernel
theorem d_Law_law_860 : decode code 860 = .ok (.istore 5, 2) := by decide +kernel
theorem d_Law_law_862 : decode code 862 = .ok (.aload_n 2, 1) := by decide +kernel
theorem d_Law_law_863 : decode code 863 = .ok (.aload_n 0, 1) := by decide +kernel
theorem d_Law_law_864 : decode code 864 = .ok (.iload 4, 2) := by decide +kernel
theorem d_Law_law_866 : decode code 866 = .ok (.iconst 1, 1) := by decide +kernel
theorem d_Law_law_867 : decode code 867 = .ok (.iadd, 1) := by decide +kernel
theorem d_Law_law_868 : decode code 868 = .ok (.iaload, 1) := by decide +kernel
theorem d_Law_law_869 : decode code 869 = .ok (.invokevirtual 119, 3) := by decide +kernel
theorem d_Law_law_872 : decode code 872 = .ok (.istore 6, 2) := by decide +kernel
theorem d_Law_law_874 : decode code 874 = .ok (.aload_n 2, 1) := by decide +kernel
theorem d_Law_law_875 : decode code 875 = .ok (.invokevirtual 79, 3) := by decide +kernel
theorem d_Law_law_878 : decode code 878 = .ok (.iload 5, 2) := by decide +kernel
theorem d_Law_law_880 : decode code 880 = .ok (.if_icmp .eq 5, 3) := by decide +kernel
theorem d_Law_law_883 : decode code 883 = .ok (.iconst 0, 1) := by decide +kernel
theorem d_Law_law_884 : decode code 884 = .ok (.ireturn, 1) := by decide +kernel
theorem d_Law_law_885 : decode code 885 = .ok (.iload 5, 2) := by decide +kernel
theorem d_Law_law_887 : decode code 887 = .ok (.ifCond .ne 15, 3) := by decide +kernel
theorem d_Law_law_890 : decode code 890 = .ok (.aload_n 3, 1) := by decide +kernel
theorem d_Law_law_891 : decode code 891 = .ok (.iconst 0, 1) := by decide +kernel
theorem d_Law_law_892 : decode code 892 = .ok (.laload, 1) := by decide +kernel
theorem d_Law_law_893 : decode code 893 = .ok (.iload 6, 2) := by decide +kernel
theorem d_Law_law_895 : decode code 895 = .ok (.i2l, 1) := by decide +kernel
theorem d_Law_law_896 : decode code 896 = .ok (.lcmp, 1) := by decide +kernel
theorem d_Law_law_897 : decode code 897 = .ok (.ifCond .eq 5, 3) := by decide +kernel
theorem d_Law_law_900 : decode code 900 = .ok (.iconst 0, 1) := by decide +kernel
theorem d_Law_law_901 : decode code 901 = .ok (.ireturn, 1) := by decide +kernel
theorem d_Law_law_902 : decode code 902 = .ok (.goto 309, 3) := by decide +kernel
theorem d_Law_law_905 : decode code 905 = .ok (.aload_n 1, 1) := by decide +kernel
theorem d_Law_law_906 : decode code 906 = .ok (.aload_n 0, 1) := by decide +kernel
theorem d_Law_law_907 : decode code 907 = .ok (.iload 4, 2) := by decide +kernel
theorem d_Law_law_909 : decode code 909 = .ok (.iconst 1, 1) := by decide +kernel
theorem d_Law_law_910 : decode code 910 = .ok (.iadd, 1) := by decide +kernel
theorem d_Law_law_911 : decode code 911 = .ok (.iaload, 1) := by decide +kernel
theorem d_Law_law_912 : decode code 912 = .ok (.aload_n 0, 1) := by decide +kernel
theorem d_Law_law_913 : decode code 913 = .ok (.iload 4, 2) := by decide +kernel
theorem d_Law_law_915 : decode code 915 = .ok (.iconst 2, 1) := by decide +kernel
theorem d_Law_law_916 : decode code 916 = .ok (.iadd, 1) := by decide +kernel
theorem d_Law_law_917 : decode code 917 = .ok (.iaload, 1) := by decide +kernel
theorem d_Law_law_918 : decode code 918 = .ok (.aload_n 0, 1) := by decide +kernel
theorem d_Law_law_919 : decode code 919 = .ok (.iload 4, 2) := by decide +kernel
theorem d_Law_law_921 : decode code 921 = .ok (.iconst 3, 1) := by decide +kernel
theorem d_Law_law_922 : decode code 922 = .ok (.iadd, 1) := by decide +kernel
theorem d_Law_law_923 : decode code 923 = .ok (.iaload, 1) := by decide +kernel
theorem d_Law_law_924 : decode code 924 = .ok (.aload_n 3, 1) := by decide +kernel
theorem d_Law_law_925 : decode code 925 = .ok (.invokestatic 120, 3) := by decide +kernel
theorem d_Law_law_928 : decode code 928 = .ok (.istore 5, 2) := by decide +kernel
theorem d_Law_law_930 : decode code 930 = .ok (.aload_n 2, 1) := by decide +kernel
theorem d_Law_law_931 : decode code 931 = .ok (.aload_n 0, 1) := by decide +kernel
theorem d_Law_law_932 : decode code 932 = .ok (.iload 4, 2) := by decide +kernel
theorem d_Law_law_934 : decode code 934 = .ok (.iconst 1, 1) := by decide +kernel
theorem d_Law_law_935 : decode code 935 = .ok (.iadd, 1) := by decide +kernel
theorem d_Law_law_936 : decode code 936 = .ok (.iaload, 1) := by decide +kernel
theorem d_Law_law_937 : decode code 937 = .ok (.aload_n 0, 1) := by decide +kernel
theorem d_Law_law_938 : decode code 938 = .ok (.iload 4, 2) := by decide +kernel
theorem d_Law_law_940 : decode code 940 = .ok (.iconst 2, 1) := by decide +kernel
theorem d_Law_law_941 : decode code 941 = .ok (.iadd, 1) := by decide +kernel
theorem d_Law_law_942 : decode code 942 = .ok (.iaload, 1) := by decide +kernel
theorem d_Law_law_943 : decode code 943 = .ok (.aload_n 0, 1) := by decide +kernel
theorem d_Law_law_944 : decode code 944 = .ok (.iload 4, 2) := by decide +kernel
theorem d_Law_law_946 : decode code 946 = .ok (.iconst 3, 1) := by decide +kernel
theorem d_Law_law_947 : decode code 947 = .ok (.iadd, 1) := by decide +kernel
theorem d_Law_law_948 : decode code 948 = .ok (.iaload, 1) := by decide +kernel
theorem d_Law_law_949 : decode code 949 = .ok (.invokevirtual 122, 3) := by decide +kernel
theorem d_Law_law_952 : decode code 952 = .ok (.istore 6, 2) := by decide +kernel
theorem d_Law_law_954 : decode code 954 = .ok (.aload_n 2, 1) := by decide +kernel
theorem d_Law_law_955 : decode code 955 = .ok (.invokevirtual 79, 3) := by decide +kernel
theorem d_Law_law_958 : decode code 958 = .ok (.iload 5, 2) := by decide +kernel
theorem d_Law_law_960 : decode code 960 = .ok (.if_icmp .eq 5, 3) := by decide +kernel
theorem d_Law_law_963 : decode code 963 = .ok (.iconst 0, 1) := by decide +kernel
theorem d_Law_law_964 : decode code 964 = .ok (.ireturn, 1) := by decide +kernel
theorem d_Law_law_965 : decode code 965 = .ok (.iload 5, 2) := by decide +kernel
theorem d_Law_law_967 : decode code 967 = .ok (.ifCond .ne 15, 3) := by decide +kernel
theorem d_Law_law_970 : decode code 970 = .ok (.aload_n 3, 1) := by decide +kernel
theorem d_Law_law_971 : decode code 971 = .ok (.iconst 0, 1) := by decide +kernel
theorem d_Law_law_972 : decode code 972 = .ok (.laload, 1) := by decide +kernel
theorem d_Law_law_973 : decode code 973 = .ok (.iload 6, 2) := by decide +kernel
theorem d_Law_law_975 : decode code 975 = .ok (.i2l, 1) := by decide +kernel
theorem d_Law_law_976 : decode code 976 = .ok (.lcmp, 1) := by decide +kernel
theorem d_Law_law_977 : decode code 977 = .ok (.ifCond .eq 5, 3) := by decide +kernel
theorem d_Law_law_980 : decode code 980 = .ok (.iconst 0, 1) := by decide +kernel
theorem d_Law_law_981 : decode code 981 = .ok (.ireturn, 1) := by decide +kernel
theorem d_Law_law_982 : decode code 982 = .ok (.goto 229, 3) := by decide +kernel
theorem d_Law_law_985 : decode code 985 = .ok (.aload_n 1, 1) := by decide +kernel
theorem d_Law_law_986 : decode code 986 = .ok (.aload_n 0, 1) := by decide +kernel
theorem d_Law_law_987 : decode code 987 = .ok (.iload 4, 2) := by decide +kernel
theorem d_Law_law_989 : decode code 989 = .ok (.iconst 1, 1) := by decide +kernel
theorem d_Law_law_990 : decode code 990 = .ok (.iadd, 1) := by decide +kernel
theorem d_Law_law_991 : decode code 991 = .ok (.iaload, 1) := by decide +kernel
theorem d_Law_law_992 : decode code 992 = .ok (.aload_n 0, 1) := by decide +kernel
theorem d_Law_law_993 : decode code 993 = .ok (.iload 4, 2) := by decide +kernel
theorem d_Law_law_995 : decode code 995 = .ok (.iconst 2, 1) := by decide +kernel
theorem d_Law_law_996 : decode code 996 = .ok (.iadd, 1) := by decide +kernel
theorem d_Law_law_997 : decode code 997 = .ok (.iaload, 1) := by decide +kernel
theorem d_Law_law_998 : decode code 998 = .ok (.aload_n 3, 1) := by decide +kernel
theorem d_Law_law_999 : decode code 999 = .ok (.invokestatic 123, 3) := by decide +kernel
theorem d_Law_law_1002 : decode code 1002 = .ok (.istore 5, 2) := by decide +kernel
theorem d_Law_law_1004 : decode code 1004 = .ok (.aload_n 2, 1) := by decide +kernel
theorem d_Law_law_1005 : decode code 1005 = .ok (.aload_n 0, 1) := by decide +kernel
theorem d_Law_law_1006 : decode code 1006 = .ok (.iload 4, 2) := by decide +kernel
theorem d_Law_law_1008 : decode code 1008 = .ok (.iconst 1, 1) := by decide +kernel
theorem d_Law_law_1009 : decode code 1009 = .ok (.iadd, 1) := by decide +kernel
theorem d_Law_law_1010 : decode code 1010 = .ok (.iaload, 1) := by decide +kernel
theorem d_Law_law_1011 : decode code 1011 = .ok (.aload_n 0, 1) := by decide +kernel
theorem d_Law_law_1012 : decode code 1012 = .ok (.iload 4, 2) := by decide +kernel
theorem d_Law_law_1014 : decode code 1014 = .ok (.iconst 2, 1) := by decide +kernel
theorem d_Law_law_1015 : decode code 1015 = .ok (.iadd, 1) := by decide +kernel
theorem d_Law_law_1016 : decode code 1016 = .ok (.iaload, 1) := by decide +kernel
theorem d_Law_law_1017 : decode code 1017 = .ok (.invokevirtual 125, 3) := by decide +kernel
theorem d_Law_law_1020 : decode code 1020 = .ok (.lstore 6, 2) := by decide +kernel
theorem d_Law_law_1022 : decode code 1022 = .ok (.aload_n 2, 1) := by decide +kernel
theorem d_Law_law_1023 : decode code 1023 = .ok (.invokevirtual 79, 3) := by decide +kernel
theorem d_Law_law_1026 : decode code 1026 = .ok (.iload 5, 2) := by decide +kernel
theorem d_Law_law_1028 : decode code 1028 = .ok (.if_icmp .eq 5, 3) := by decide +kernel
theorem d_Law_law_1031 : decode code 1031 = .ok (.iconst 0, 1) := by decide +kernel
theorem d_Law_law_1032 : decode code 1032 = .ok (.ireturn, 1) := by decide +kernel
theorem d_Law_law_1033 : decode code 1033 = .ok (.iload 5, 2) := by decide +kernel
theorem d_Law_law_1035 : decode code 1035 = .ok (.ifCond .ne 14, 3) := by decide +kernel
theorem d_Law_law_1038 : decode code 1038 = .ok (.aload_n 3, 1) := by decide +kernel
theorem d_Law_law_1039 : decode code 1039 = .ok (.iconst 0, 1) := by decide +kernel
theorem d_Law_law_1040 : decode code 1040 = .ok (.laload, 1) := by decide +kernel
theorem d_Law_law_1041 : decode code 1041 = .ok (.lload 6, 2) := by decide +kernel
theorem d_Law_law_1043 : decode code 1043 = .ok (.lcmp, 1) := by decide +kernel
theorem d_Law_law_1044 : decode code 1044 = .ok (.ifCond .eq 5, 3) := by decide +kernel
theorem d_Law_law_1047 : decode code 1047 = .ok (.iconst 0, 1) := by decide +kernel
theorem d_Law_law_1048 : decode code 1048 = .ok (.ireturn, 1) := by decide +kernel
theorem d_Law_law_1049 : decode code 1049 = .ok (.goto 162, 3) := by decide +kernel
theorem d_Law_law_1052 : decode code 1052 = .ok (.aload_n 1, 1) := by decide +kernel
theorem d_Law_law_1053 : decode code 1053 = .ok (.aload_n 0, 1) := by decide +kernel
theorem d_Law_law_1054 : decode code 1054 = .ok (.iload 4, 2) := by decide +kernel
theorem d_Law_law_1056 : decode code 1056 = .ok (.iconst 1, 1) := by decide +kernel
theorem d_Law_law_1057 : decode code 1057 = .ok (.iadd, 1) := by decide +kernel
theorem d_Law_law_1058 : decode code 1058 = .ok (.iaload, 1) := by decide +kernel
theorem d_Law_law_1059 : decode code 1059 = .ok (.aload_n 0, 1) := by decide +kernel
theorem d_Law_law_1060 : decode code 1060 = .ok (.iload 4, 2) := by decide +kernel
theorem d_Law_law_1062 : decode code 1062 = .ok (.iconst 2, 1) := by decide +kernel
theorem d_Law_law_1063 : decode code 1063 = .ok (.iadd, 1) := by decide +kernel
theorem d_Law_law_1064 : decode code 1064 = .ok (.iaload, 1) := by decide +kernel
theorem d_Law_law_1065 : decode code 1065 = .ok (.aload_n 0, 1) := by decide +kernel
theorem d_Law_law_1066 : decode code 1066 = .ok (.iload 4, 2) := by decide +kernel
theorem d_Law_law_1068 : decode code 1068 = .ok (.iconst 3, 1) := by decide +kernel
theorem d_Law_law_1069 : decode code 1069 = .ok (.iadd, 1) := by decide +kernel
theorem d_Law_law_1070 : decode code 1070 = .ok (.iaload, 1) := by decide +kernel
theorem d_Law_law_1071 : decode code 1071 = .ok (.aload_n 0, 1) := by decide +kernel
theorem d_Law_law_1072 : decode code 1072 = .ok (.iload 4, 2) := by decide +kernel
theorem d_Law_law_1074 : decode code 1074 = .ok (.iconst 4, 1) := by decide +kernel
theorem d_Law_law_1075 : decode code 1075 = .ok (.iadd, 1) := by decide +kernel
theorem d_Law_law_1076 : decode code 1076 = .ok (.iaload, 1) := by decide +kernel
theorem d_Law_law_1077 : decode code 1077 = .ok (.aload_n 0, 1) := by decide +kernel
theorem d_Law_law_1078 : decode code 1078 = .ok (.iload 4, 2) := by decide +kernel
theorem d_Law_law_1080 : decode code 1080 = .ok (.iconst 5, 1) := by decide +kernel
theorem d_Law_law_1081 : decode code 1081 = .ok (.iadd, 1) := by decide +kernel
theorem d_Law_law_1082 : decode code 1082 = .ok (.iaload, 1) := by decide +kernel
theorem d_Law_law_1083 : decode code 1083 = .ok (.aload_n 3, 1) := by decide +kernel
theorem d_Law_law_1084 : decode code 1084 = .ok (.invokestatic 126, 3) := by decide +kernel
theorem d_Law_law_1087 : decode code 1087 = .ok (.istore 5, 2) := by decide +kernel
theorem d_Law_law_1089 : decode code 1089 = .ok (.aload_n 2, 1) := by decide +kernel
theorem d_Law_law_1090 : decode code 1090 = .ok (.aload_n 0, 1) := by decide +kernel
theorem d_Law_law_1091 : decode code 1091 = .ok (.iload 4, 2) := by decide +kernel
theorem d_Law_law_1093 : decode code 1093 = .ok (.iconst 1, 1) := by decide +kernel
theorem d_Law_law_1094 : decode code 1094 = .ok (.iadd, 1) := by decide +kernel
theorem d_Law_law_1095 : decode code 1095 = .ok (.iaload, 1) := by decide +kernel
theorem d_Law_law_1096 : decode code 1096 = .ok (.aload_n 0, 1) := by decide +kernel
theorem d_Law_law_1097 : decode code 1097 = .ok (.iload 4, 2) := by decide +kernel
theorem d_Law_law_1099 : decode code 1099 = .ok (.iconst 2, 1) := by decide +kernel
theorem d_Law_law_1100 : decode code 1100 = .ok (.iadd, 1) := by decide +kernel
theorem d_Law_law_1101 : decode code 1101 = .ok (.iaload, 1) := by decide +kernel
theorem d_Law_law_1102 : decode code 1102 = .ok (.aload_n 0, 1) := by decide +kernel
theorem d_Law_law_1103 : decode code 1103 = .ok (.iload 4, 2) := by decide +kernel
theorem d_Law_law_1105 : decode code 1105 = .ok (.iconst 3, 1) := by decide +kernel
theorem d_Law_law_1106 : decode code 1106 = .ok (.iadd, 1) := by decide +kernel
theorem d_Law_law_1107 : decode code 1107 = .ok (.iaload, 1) := by decide +kernel
theorem d_Law_law_1108 : decode code 1108 = .ok (.aload_n 0, 1) := by decide +kernel
theorem d_Law_law_1109 : decode code 1109 = .ok (.iload 4, 2) := by decide +kernel
theorem d_Law_law_1111 : decode code 1111 = .ok (.iconst 4, 1) := by decide +kernel
theorem d_Law_law_1112 : decode code 1112 = .ok (.iadd, 1) := by decide +kernel
theorem d_Law_law_1113 : decode code 1113 = .ok (.iaload, 1) := by decide +kernel
theorem d_Law_law_1114 : decode code 1114 = .ok (.aload_n 0, 1) := by decide +kernel
theorem d_Law_law_1115 : decode code 1115 = .ok (.iload 4, 2) := by decide +kernel
theorem d_Law_law_1117 : decode code 1117 = .ok (.iconst 5, 1) := by decide +kernel
theorem d_Law_law_1118 : decode code 1118 = .ok (.iadd, 1) := by decide +kernel
theorem d_Law_law_1119 : decode code 1119 = .ok (.iaload, 1) := by decide +kernel
theorem d_Law_law_1120 : decode code 1120 = .ok (.invokevirtual 129, 3) := by decide +kernel
theorem d_Law_law_1123 : decode code 1123 = .ok (.lstore 6, 2) := by decide +kernel
theorem d_Law_law_1125 : decode code 1125 = .ok (.aload_n 2, 1) := by decide +kernel
theorem d_Law_law_1126 : decode code 1126 = .ok (.invokevirtual 79, 3) := by decide +kernel
theorem d_Law_law_1129 : decode code 1129 = .ok (.iload 5, 2) := by decide +kernel
theorem d_Law_law_1131 : decode code 1131 = .ok (.if_icmp .eq 5, 3) := by decide +kernel
theorem d_Law_law_1134 : decode code 1134 = .ok (.iconst 0, 1) := by decide +kernel
theorem d_Law_law_1135 : decode code 1135 = .ok (.ireturn, 1) := by decide +kernel
theorem d_Law_law_1136 : decode code 1136 = .ok (.iload 5, 2) := by decide +kernel
theorem d_Law_law_1138 : decode code 1138 = .ok (.ifCond .ne 14, 3) := by decide +kernel
theorem d_Law_law_1141 : decode code 1141 = .ok (.aload_n 3, 1) := by decide +kernel
theorem d_Law_law_1142 : decode code 1142 = .ok (.iconst 0, 1) := by decide +kernel
theorem d_Law_law_1143 : decode code 1143 = .ok (.laload, 1) := by decide +kernel
theorem d_Law_law_1144 : decode code 1144 = .ok (.lload 6, 2) := by decide +kernel
theorem d_Law_law_1146 : decode code 1146 = .ok (.lcmp, 1) := by decide +kernel
theorem d_Law_law_1147 : decode code 1147 = .ok (.ifCond .eq 5, 3) := by decide +kernel
theorem d_Law_law_1150 : decode code 1150 = .ok (.iconst 0, 1) := by decide +kernel
theorem d_Law_law_1151 : decode code 1151 = .ok (.ireturn, 1) := by decide +kernel
theorem d_Law_law_1152 : decode code 1152 = .ok (.goto 59, 3) := by decide +kernel
theorem d_Law_law_1155 : decode code 1155 = .ok (.aload_n 1, 1) := by decide +kernel
theorem d_Law_law_1156 : decode code 1156 = .ok (.aload_n 0, 1) := by decide +kernel
theorem d_Law_law_1157 : decode code 1157 = .ok (.iload 4, 2) := by decide +kernel
theorem d_Law_law_1159 : decode code 1159 = .ok (.iconst 1, 1) := by decide +kernel
theorem d_Law_law_1160 : decode code 1160 = .ok (.iadd, 1) := by decide +kernel
theorem d_Law_law_1161 : decode code 1161 = .ok (.iaload, 1) := by decide +kernel
theorem d_Law_law_1162 : decode code 1162 = .ok (.aload_n 3, 1) := by decide +kernel
theorem d_Law_law_1163 : decode code 1163 = .ok (.invokestatic 130, 3) := by decide +kernel
theorem d_Law_law_1166 : decode code 1166 = .ok (.istore 5, 2) := by decide +kernel
theorem d_Law_law_1168 : decode code 1168 = .ok (.aload_n 2, 1) := by decide +kernel
theorem d_Law_law_1169 : decode code 1169 = .ok (.aload_n 0, 1) := by decide +kernel
theorem d_Law_law_1170 : decode code 1170 = .ok (.iload 4, 2) := by decide +kernel
theorem d_Law_law_1172 : decode code 1172 = .ok (.iconst 1, 1) := by decide +kernel
theorem d_Law_law_1173 : decode code 1173 = .ok (.iadd, 1) := by decide +kernel
theorem d_Law_law_1174 : decode code 1174 = .ok (.iaload, 1) := by decide +kernel
theorem d_Law_law_1175 : decode code 1175 = .ok (.invokevirtual 132, 3) := by decide +kernel
theorem d_Law_law_1178 : decode code 1178 = .ok (.istore 6, 2) := by decide +kernel
theorem d_Law_law_1180 : decode code 1180 = .ok (.aload_n 2, 1) := by decide +kernel
theorem d_Law_law_1181 : decode code 1181 = .ok (.invokevirtual 79, 3) := by decide +kernel
theorem d_Law_law_1184 : decode code 1184 = .ok (.iload 5, 2) := by decide +kernel
theorem d_Law_law_1186 : decode code 1186 = .ok (.if_icmp .eq 5, 3) := by decide +kernel
theorem d_Law_law_1189 : decode code 1189 = .ok (.iconst 0, 1) := by decide +kernel
theorem d_Law_law_1190 : decode code 1190 = .ok (.ireturn, 1) := by decide +kernel
theorem d_Law_law_1191 : decode code 1191 = .ok (.iload 5, 2) := by decide +kernel
theorem d_Law_law_1193 : decode code 1193 = .ok (.ifCond .ne 15, 3) := by decide +kernel
theorem d_Law_law_1196 : decode code 1196 = .ok (.aload_n 3, 1) := by decide +kernel
theorem d_Law_law_1197 : decode code 1197 = .ok (.iconst 0, 1) := by decide +kernel
theorem d_Law_law_1198 : decode code 1198 = .ok (.laload, 1) := by decide +kernel
theorem d_Law_law_1199 : decode code 1199 = .ok (.iload 6, 2) := by decide +kernel
theorem d_Law_law_1201 : decode code 1201 = .ok (.i2l, 1) := by decide +kernel
theorem d_Law_law_1202 : decode code 1202 = .ok (.lcmp, 1) := by decide +kernel
theorem d_Law_law_1203 : decode code 1203 = .ok (.ifCond .eq 5, 3) := by decide +kernel
theorem d_Law_law_1206 : decode code 1206 = .ok (.iconst 0, 1) := by decide +kernel
theorem d_Law_law_1207 : decode code 1207 = .ok (.ireturn, 1) := by decide +kernel
theorem d_Law_law_1208 : decode code 1208 = .ok (.goto 3, 3) := by decide +kernel
theorem d_Law_law_1211 : decode code 1211 = .ok (.iinc 4 6, 3) := by decide +kernel
theorem d_Law_law_1214 : decode code 1214 = .ok (.goto (-1191), 3) := by decide +kernel
theorem d_Law_law_1217 : decode code 1217 = .ok (.iconst 1, 1) := by decide +kernel
theorem d_Law_law_1218 : decode code 1218 = .ok (.ireturn, 1) := by decide +kernel
