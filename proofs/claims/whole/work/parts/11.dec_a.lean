theorem d_DV_init_0 : decode prog_1_method_1_code 0 = .ok (.aload_n 0, 1) := by decide +kernel
theorem d_DV_init_1 : decode prog_1_method_1_code 1 = .ok (.invokespecial 1, 3) := by decide +kernel
theorem d_DV_init_4 : decode prog_1_method_1_code 4 = .ok (.aload_n 0, 1) := by decide +kernel
theorem d_DV_init_5 : decode prog_1_method_1_code 5 = .ok (.bipush 12, 2) := by decide +kernel
theorem d_DV_init_7 : decode prog_1_method_1_code 7 = .ok (.anewarray 9, 3) := by decide +kernel
theorem d_DV_init_10 : decode prog_1_method_1_code 10 = .ok (.putfield 11, 3) := by decide +kernel
theorem d_DV_init_13 : decode prog_1_method_1_code 13 = .ok (.aload_n 0, 1) := by decide +kernel
theorem d_DV_init_14 : decode prog_1_method_1_code 14 = .ok (.iconst 3, 1) := by decide +kernel
theorem d_DV_init_15 : decode prog_1_method_1_code 15 = .ok (.putfield 15, 3) := by decide +kernel
theorem d_DV_init_18 : decode prog_1_method_1_code 18 = .ok (.aload_n 0, 1) := by decide +kernel
theorem d_DV_init_19 : decode prog_1_method_1_code 19 = .ok (.new 19, 3) := by decide +kernel
theorem d_DV_init_22 : decode prog_1_method_1_code 22 = .ok (.dup, 1) := by decide +kernel
theorem d_DV_init_23 : decode prog_1_method_1_code 23 = .ok (.invokespecial 21, 3) := by decide +kernel
theorem d_DV_init_26 : decode prog_1_method_1_code 26 = .ok (.putfield 22, 3) := by decide +kernel
theorem d_DV_init_29 : decode prog_1_method_1_code 29 = .ok (.iconst 0, 1) := by decide +kernel
theorem d_DV_init_30 : decode prog_1_method_1_code 30 = .ok (.istore_n 1, 1) := by decide +kernel
theorem d_DV_init_31 : decode prog_1_method_1_code 31 = .ok (.iload_n 1, 1) := by decide +kernel
theorem d_DV_init_32 : decode prog_1_method_1_code 32 = .ok (.bipush 12, 2) := by decide +kernel
theorem d_DV_init_34 : decode prog_1_method_1_code 34 = .ok (.if_icmp .ge 29, 3) := by decide +kernel
theorem d_DV_init_37 : decode prog_1_method_1_code 37 = .ok (.aload_n 0, 1) := by decide +kernel
theorem d_DV_init_38 : decode prog_1_method_1_code 38 = .ok (.getfield 11, 3) := by decide +kernel
theorem d_DV_init_41 : decode prog_1_method_1_code 41 = .ok (.iload_n 1, 1) := by decide +kernel
theorem d_DV_init_42 : decode prog_1_method_1_code 42 = .ok (.new 9, 3) := by decide +kernel
theorem d_DV_init_45 : decode prog_1_method_1_code 45 = .ok (.dup, 1) := by decide +kernel
theorem d_DV_init_46 : decode prog_1_method_1_code 46 = .ok (.new 26, 3) := by decide +kernel
theorem d_DV_init_49 : decode prog_1_method_1_code 49 = .ok (.dup, 1) := by decide +kernel
theorem d_DV_init_50 : decode prog_1_method_1_code 50 = .ok (.invokespecial 28, 3) := by decide +kernel
theorem d_DV_init_53 : decode prog_1_method_1_code 53 = .ok (.invokespecial 29, 3) := by decide +kernel
theorem d_DV_init_56 : decode prog_1_method_1_code 56 = .ok (.aastore, 1) := by decide +kernel
theorem d_DV_init_57 : decode prog_1_method_1_code 57 = .ok (.iinc 1 1, 3) := by decide +kernel
theorem d_DV_init_60 : decode prog_1_method_1_code 60 = .ok (.goto (-29), 3) := by decide +kernel
theorem d_DV_init_63 : decode prog_1_method_1_code 63 = .ok (.return_, 1) := by decide +kernel
theorem d_Batch_init_0 : decode prog_3_method_1_code 0 = .ok (.aload_n 0, 1) := by decide +kernel
theorem d_Batch_init_1 : decode prog_3_method_1_code 1 = .ok (.invokespecial 3, 3) := by decide +kernel
theorem d_Batch_init_4 : decode prog_3_method_1_code 4 = .ok (.aload_n 0, 1) := by decide +kernel
theorem d_Batch_init_5 : decode prog_3_method_1_code 5 = .ok (.bipush 8, 2) := by decide +kernel
theorem d_Batch_init_7 : decode prog_3_method_1_code 7 = .ok (.newarray .int, 2) := by decide +kernel
theorem d_Batch_init_9 : decode prog_3_method_1_code 9 = .ok (.putfield 9, 3) := by decide +kernel
theorem d_Batch_init_12 : decode prog_3_method_1_code 12 = .ok (.aload_n 0, 1) := by decide +kernel
theorem d_Batch_init_13 : decode prog_3_method_1_code 13 = .ok (.bipush 8, 2) := by decide +kernel
theorem d_Batch_init_15 : decode prog_3_method_1_code 15 = .ok (.newarray .int, 2) := by decide +kernel
theorem d_Batch_init_17 : decode prog_3_method_1_code 17 = .ok (.putfield 15, 3) := by decide +kernel
theorem d_Batch_init_20 : decode prog_3_method_1_code 20 = .ok (.aload_n 0, 1) := by decide +kernel
theorem d_Batch_init_21 : decode prog_3_method_1_code 21 = .ok (.bipush 8, 2) := by decide +kernel
theorem d_Batch_init_23 : decode prog_3_method_1_code 23 = .ok (.newarray .int, 2) := by decide +kernel
theorem d_Batch_init_25 : decode prog_3_method_1_code 25 = .ok (.putfield 18, 3) := by decide +kernel
theorem d_Batch_init_28 : decode prog_3_method_1_code 28 = .ok (.aload_n 0, 1) := by decide +kernel
theorem d_Batch_init_29 : decode prog_3_method_1_code 29 = .ok (.bipush 8, 2) := by decide +kernel
theorem d_Batch_init_31 : decode prog_3_method_1_code 31 = .ok (.newarray .int, 2) := by decide +kernel
theorem d_Batch_init_33 : decode prog_3_method_1_code 33 = .ok (.putfield 21, 3) := by decide +kernel
theorem d_Batch_init_36 : decode prog_3_method_1_code 36 = .ok (.aload_n 0, 1) := by decide +kernel
theorem d_Batch_init_37 : decode prog_3_method_1_code 37 = .ok (.iconst 0, 1) := by decide +kernel
theorem d_Batch_init_38 : decode prog_3_method_1_code 38 = .ok (.putfield 24, 3) := by decide +kernel
theorem d_Batch_init_41 : decode prog_3_method_1_code 41 = .ok (.return_, 1) := by decide +kernel
theorem d_Table_init_0 : decode prog_10_method_1_code 0 = .ok (.aload_n 0, 1) := by decide +kernel
theorem d_Table_init_1 : decode prog_10_method_1_code 1 = .ok (.invokespecial 3, 3) := by decide +kernel
theorem d_Table_init_4 : decode prog_10_method_1_code 4 = .ok (.return_, 1) := by decide +kernel
theorem d_Oper_init_0 : decode prog_7_method_1_code 0 = .ok (.aload_n 0, 1) := by decide +kernel
theorem d_Oper_init_1 : decode prog_7_method_1_code 1 = .ok (.invokespecial 3, 3) := by decide +kernel
theorem d_Oper_init_4 : decode prog_7_method_1_code 4 = .ok (.return_, 1) := by decide +kernel
theorem d_View_init_0 : decode prog_12_method_1_code 0 = .ok (.aload_n 0, 1) := by decide +kernel
theorem d_View_init_1 : decode prog_12_method_1_code 1 = .ok (.invokespecial 1, 3) := by decide +kernel
theorem d_View_init_4 : decode prog_12_method_1_code 4 = .ok (.aload_n 0, 1) := by decide +kernel
theorem d_View_init_5 : decode prog_12_method_1_code 5 = .ok (.new 7, 3) := by decide +kernel
theorem d_View_init_8 : decode prog_12_method_1_code 8 = .ok (.dup, 1) := by decide +kernel
theorem d_View_init_9 : decode prog_12_method_1_code 9 = .ok (.invokespecial 9, 3) := by decide +kernel
theorem d_View_init_12 : decode prog_12_method_1_code 12 = .ok (.putfield 10, 3) := by decide +kernel
theorem d_View_init_15 : decode prog_12_method_1_code 15 = .ok (.aload_n 0, 1) := by decide +kernel
theorem d_View_init_16 : decode prog_12_method_1_code 16 = .ok (.new 7, 3) := by decide +kernel
theorem d_View_init_19 : decode prog_12_method_1_code 19 = .ok (.dup, 1) := by decide +kernel
theorem d_View_init_20 : decode prog_12_method_1_code 20 = .ok (.invokespecial 9, 3) := by decide +kernel
theorem d_View_init_23 : decode prog_12_method_1_code 23 = .ok (.putfield 16, 3) := by decide +kernel
theorem d_View_init_26 : decode prog_12_method_1_code 26 = .ok (.aload_n 0, 1) := by decide +kernel
theorem d_View_init_27 : decode prog_12_method_1_code 27 = .ok (.iconst 0, 1) := by decide +kernel
theorem d_View_init_28 : decode prog_12_method_1_code 28 = .ok (.putfield 19, 3) := by decide +kernel
theorem d_View_init_31 : decode prog_12_method_1_code 31 = .ok (.aload_n 0, 1) := by decide +kernel
theorem d_View_init_32 : decode prog_12_method_1_code 32 = .ok (.aload_n 1, 1) := by decide +kernel
theorem d_View_init_33 : decode prog_12_method_1_code 33 = .ok (.putfield 23, 3) := by decide +kernel
theorem d_View_init_36 : decode prog_12_method_1_code 36 = .ok (.return_, 1) := by decide +kernel
theorem d_Bag_init_0 : decode prog_2_method_1_code 0 = .ok (.aload_n 0, 1) := by decide +kernel
theorem d_Bag_init_1 : decode prog_2_method_1_code 1 = .ok (.invokespecial 3, 3) := by decide +kernel
theorem d_Bag_init_4 : decode prog_2_method_1_code 4 = .ok (.aload_n 0, 1) := by decide +kernel
theorem d_Bag_init_5 : decode prog_2_method_1_code 5 = .ok (.iconst 2, 1) := by decide +kernel
theorem d_Bag_init_6 : decode prog_2_method_1_code 6 = .ok (.putfield 9, 3) := by decide +kernel
theorem d_Bag_init_9 : decode prog_2_method_1_code 9 = .ok (.aload_n 0, 1) := by decide +kernel
theorem d_Bag_init_10 : decode prog_2_method_1_code 10 = .ok (.iconst 0, 1) := by decide +kernel
theorem d_Bag_init_11 : decode prog_2_method_1_code 11 = .ok (.putfield 15, 3) := by decide +kernel
theorem d_Bag_init_14 : decode prog_2_method_1_code 14 = .ok (.aload_n 0, 1) := by decide +kernel
theorem d_Bag_init_15 : decode prog_2_method_1_code 15 = .ok (.sipush 128, 3) := by decide +kernel
theorem d_Bag_init_18 : decode prog_2_method_1_code 18 = .ok (.newarray .int, 2) := by decide +kernel
theorem d_Bag_init_20 : decode prog_2_method_1_code 20 = .ok (.putfield 18, 3) := by decide +kernel
theorem d_Bag_init_23 : decode prog_2_method_1_code 23 = .ok (.aload_n 0, 1) := by decide +kernel
theorem d_Bag_init_24 : decode prog_2_method_1_code 24 = .ok (.bipush 32, 2) := by decide +kernel
theorem d_Bag_init_26 : decode prog_2_method_1_code 26 = .ok (.newarray .long, 2) := by decide +kernel
theorem d_Bag_init_28 : decode prog_2_method_1_code 28 = .ok (.putfield 22, 3) := by decide +kernel
theorem d_Bag_init_31 : decode prog_2_method_1_code 31 = .ok (.aload_n 0, 1) := by decide +kernel
theorem d_Bag_init_32 : decode prog_2_method_1_code 32 = .ok (.iconst 4, 1) := by decide +kernel
theorem d_Bag_init_33 : decode prog_2_method_1_code 33 = .ok (.newarray .int, 2) := by decide +kernel
theorem d_Bag_init_35 : decode prog_2_method_1_code 35 = .ok (.putfield 26, 3) := by decide +kernel
theorem d_Bag_init_38 : decode prog_2_method_1_code 38 = .ok (.return_, 1) := by decide +kernel
theorem d_DV_cancel_0 : decode prog_1_method_3_code 0 = .ok (.aload_n 0, 1) := by decide +kernel
theorem d_DV_cancel_1 : decode prog_1_method_3_code 1 = .ok (.getfield 22, 3) := by decide +kernel
theorem d_DV_cancel_4 : decode prog_1_method_3_code 4 = .ok (.invokevirtual 61, 3) := by decide +kernel
theorem d_DV_cancel_7 : decode prog_1_method_3_code 7 = .ok (.ireturn, 1) := by decide +kernel
theorem d_Batch_empty_0 : decode prog_3_method_4_code 0 = .ok (.aload_n 0, 1) := by decide +kernel
theorem d_Batch_empty_1 : decode prog_3_method_4_code 1 = .ok (.getfield 24, 3) := by decide +kernel
theorem d_Batch_empty_4 : decode prog_3_method_4_code 4 = .ok (.istore_n 1, 1) := by decide +kernel
theorem d_Batch_empty_5 : decode prog_3_method_4_code 5 = .ok (.aload_n 0, 1) := by decide +kernel
theorem d_Batch_empty_6 : decode prog_3_method_4_code 6 = .ok (.iconst 0, 1) := by decide +kernel
theorem d_Batch_empty_7 : decode prog_3_method_4_code 7 = .ok (.putfield 24, 3) := by decide +kernel
theorem d_Batch_empty_10 : decode prog_3_method_4_code 10 = .ok (.iload_n 1, 1) := by decide +kernel
theorem d_Batch_empty_11 : decode prog_3_method_4_code 11 = .ok (.ireturn, 1) := by decide +kernel
theorem d_DV_change_0 : decode prog_1_method_2_code 0 = .ok (.iload_n 1, 1) := by decide +kernel
theorem d_DV_change_1 : decode prog_1_method_2_code 1 = .ok (.ifCond .lt 8, 3) := by decide +kernel
theorem d_DV_change_4 : decode prog_1_method_2_code 4 = .ok (.iload_n 1, 1) := by decide +kernel
theorem d_DV_change_5 : decode prog_1_method_2_code 5 = .ok (.iconst 3, 1) := by decide +kernel
theorem d_DV_change_6 : decode prog_1_method_2_code 6 = .ok (.if_icmp .lt 13, 3) := by decide +kernel
theorem d_DV_change_9 : decode prog_1_method_2_code 9 = .ok (.new 32, 3) := by decide +kernel
theorem d_DV_change_12 : decode prog_1_method_2_code 12 = .ok (.dup, 1) := by decide +kernel
theorem d_DV_change_13 : decode prog_1_method_2_code 13 = .ok (.ldc 34, 2) := by decide +kernel
theorem d_DV_change_15 : decode prog_1_method_2_code 15 = .ok (.invokespecial 36, 3) := by decide +kernel
theorem d_DV_change_18 : decode prog_1_method_2_code 18 = .ok (.athrow, 1) := by decide +kernel
theorem d_DV_change_19 : decode prog_1_method_2_code 19 = .ok (.iload_n 2, 1) := by decide +kernel
theorem d_DV_change_20 : decode prog_1_method_2_code 20 = .ok (.sipush 1000, 3) := by decide +kernel
theorem d_DV_change_23 : decode prog_1_method_2_code 23 = .ok (.invokestatic 39, 3) := by decide +kernel
theorem d_DV_change_26 : decode prog_1_method_2_code 26 = .ok (.ifCond .ne 23, 3) := by decide +kernel
theorem d_DV_change_29 : decode prog_1_method_2_code 29 = .ok (.iload_n 3, 1) := by decide +kernel
theorem d_DV_change_30 : decode prog_1_method_2_code 30 = .ok (.sipush 1000, 3) := by decide +kernel
theorem d_DV_change_33 : decode prog_1_method_2_code 33 = .ok (.invokestatic 39, 3) := by decide +kernel
theorem d_DV_change_36 : decode prog_1_method_2_code 36 = .ok (.ifCond .ne 13, 3) := by decide +kernel
theorem d_DV_change_39 : decode prog_1_method_2_code 39 = .ok (.iload 4, 2) := by decide +kernel
theorem d_DV_change_41 : decode prog_1_method_2_code 41 = .ok (.bipush 99, 2) := by decide +kernel
theorem d_DV_change_43 : decode prog_1_method_2_code 43 = .ok (.invokestatic 39, 3) := by decide +kernel
theorem d_DV_change_46 : decode prog_1_method_2_code 46 = .ok (.ifCond .eq 13, 3) := by decide +kernel
theorem d_DV_change_49 : decode prog_1_method_2_code 49 = .ok (.new 43, 3) := by decide +kernel
theorem d_DV_change_52 : decode prog_1_method_2_code 52 = .ok (.dup, 1) := by decide +kernel
theorem d_DV_change_53 : decode prog_1_method_2_code 53 = .ok (.ldc 45, 2) := by decide +kernel
theorem d_DV_change_55 : decode prog_1_method_2_code 55 = .ok (.invokespecial 47, 3) := by decide +kernel
theorem d_DV_change_58 : decode prog_1_method_2_code 58 = .ok (.athrow, 1) := by decide +kernel
theorem d_DV_change_59 : decode prog_1_method_2_code 59 = .ok (.aload_n 0, 1) := by decide +kernel
theorem d_DV_change_60 : decode prog_1_method_2_code 60 = .ok (.getfield 22, 3) := by decide +kernel
theorem d_DV_change_63 : decode prog_1_method_2_code 63 = .ok (.invokevirtual 48, 3) := by decide +kernel
theorem d_DV_change_66 : decode prog_1_method_2_code 66 = .ok (.ifCond .eq 13, 3) := by decide +kernel
theorem d_DV_change_69 : decode prog_1_method_2_code 69 = .ok (.new 52, 3) := by decide +kernel
theorem d_DV_change_72 : decode prog_1_method_2_code 72 = .ok (.dup, 1) := by decide +kernel
theorem d_DV_change_73 : decode prog_1_method_2_code 73 = .ok (.ldc 54, 2) := by decide +kernel
theorem d_DV_change_75 : decode prog_1_method_2_code 75 = .ok (.invokespecial 56, 3) := by decide +kernel
theorem d_DV_change_78 : decode prog_1_method_2_code 78 = .ok (.athrow, 1) := by decide +kernel
theorem d_DV_change_79 : decode prog_1_method_2_code 79 = .ok (.aload_n 0, 1) := by decide +kernel
theorem d_DV_change_80 : decode prog_1_method_2_code 80 = .ok (.getfield 22, 3) := by decide +kernel
theorem d_DV_change_83 : decode prog_1_method_2_code 83 = .ok (.iload_n 1, 1) := by decide +kernel
theorem d_DV_change_84 : decode prog_1_method_2_code 84 = .ok (.iload_n 2, 1) := by decide +kernel
theorem d_DV_change_85 : decode prog_1_method_2_code 85 = .ok (.iload_n 3, 1) := by decide +kernel
theorem d_DV_change_86 : decode prog_1_method_2_code 86 = .ok (.iload 4, 2) := by decide +kernel
theorem d_DV_change_88 : decode prog_1_method_2_code 88 = .ok (.invokevirtual 57, 3) := by decide +kernel
theorem d_DV_change_91 : decode prog_1_method_2_code 91 = .ok (.ireturn, 1) := by decide +kernel
theorem d_DV_isTooFar_0 : decode prog_1_method_18_code 0 = .ok (.iload_n 0, 1) := by decide +kernel
theorem d_DV_isTooFar_1 : decode prog_1_method_18_code 1 = .ok (.iload_n 1, 1) := by decide +kernel
theorem d_DV_isTooFar_2 : decode prog_1_method_18_code 2 = .ok (.ineg, 1) := by decide +kernel
theorem d_DV_isTooFar_3 : decode prog_1_method_18_code 3 = .ok (.if_icmp .lt 8, 3) := by decide +kernel
theorem d_DV_isTooFar_6 : decode prog_1_method_18_code 6 = .ok (.iload_n 0, 1) := by decide +kernel
theorem d_DV_isTooFar_7 : decode prog_1_method_18_code 7 = .ok (.iload_n 1, 1) := by decide +kernel
theorem d_DV_isTooFar_8 : decode prog_1_method_18_code 8 = .ok (.if_icmp .le 7, 3) := by decide +kernel
theorem d_DV_isTooFar_11 : decode prog_1_method_18_code 11 = .ok (.iconst 1, 1) := by decide +kernel
theorem d_DV_isTooFar_12 : decode prog_1_method_18_code 12 = .ok (.goto 4, 3) := by decide +kernel
theorem d_DV_isTooFar_15 : decode prog_1_method_18_code 15 = .ok (.iconst 0, 1) := by decide +kernel
theorem d_DV_isTooFar_16 : decode prog_1_method_18_code 16 = .ok (.ireturn, 1) := by decide +kernel
theorem d_Batch_isFull_0 : decode prog_3_method_2_code 0 = .ok (.aload_n 0, 1) := by decide +kernel
theorem d_Batch_isFull_1 : decode prog_3_method_2_code 1 = .ok (.getfield 24, 3) := by decide +kernel
theorem d_Batch_isFull_4 : decode prog_3_method_2_code 4 = .ok (.bipush 8, 2) := by decide +kernel
theorem d_Batch_isFull_6 : decode prog_3_method_2_code 6 = .ok (.if_icmp .ne 7, 3) := by decide +kernel
theorem d_Batch_isFull_9 : decode prog_3_method_2_code 9 = .ok (.iconst 1, 1) := by decide +kernel
theorem d_Batch_isFull_10 : decode prog_3_method_2_code 10 = .ok (.goto 4, 3) := by decide +kernel
theorem d_Batch_isFull_13 : decode prog_3_method_2_code 13 = .ok (.iconst 0, 1) := by decide +kernel
theorem d_Batch_isFull_14 : decode prog_3_method_2_code 14 = .ok (.ireturn, 1) := by decide +kernel
theorem d_Batch_append_0 : decode prog_3_method_3_code 0 = .ok (.aload_n 0, 1) := by decide +kernel
theorem d_Batch_append_1 : decode prog_3_method_3_code 1 = .ok (.getfield 9, 3) := by decide +kernel
theorem d_Batch_append_4 : decode prog_3_method_3_code 4 = .ok (.aload_n 0, 1) := by decide +kernel
theorem d_Batch_append_5 : decode prog_3_method_3_code 5 = .ok (.getfield 24, 3) := by decide +kernel
theorem d_Batch_append_8 : decode prog_3_method_3_code 8 = .ok (.iload_n 1, 1) := by decide +kernel
theorem d_Batch_append_9 : decode prog_3_method_3_code 9 = .ok (.iastore, 1) := by decide +kernel
theorem d_Batch_append_10 : decode prog_3_method_3_code 10 = .ok (.aload_n 0, 1) := by decide +kernel
theorem d_Batch_append_11 : decode prog_3_method_3_code 11 = .ok (.getfield 15, 3) := by decide +kernel
theorem d_Batch_append_14 : decode prog_3_method_3_code 14 = .ok (.aload_n 0, 1) := by decide +kernel
theorem d_Batch_append_15 : decode prog_3_method_3_code 15 = .ok (.getfield 24, 3) := by decide +kernel
theorem d_Batch_append_18 : decode prog_3_method_3_code 18 = .ok (.iload_n 2, 1) := by decide +kernel
theorem d_Batch_append_19 : decode prog_3_method_3_code 19 = .ok (.iastore, 1) := by decide +kernel
theorem d_Batch_append_20 : decode prog_3_method_3_code 20 = .ok (.aload_n 0, 1) := by decide +kernel
theorem d_Batch_append_21 : decode prog_3_method_3_code 21 = .ok (.getfield 18, 3) := by decide +kernel
theorem d_Batch_append_24 : decode prog_3_method_3_code 24 = .ok (.aload_n 0, 1) := by decide +kernel
theorem d_Batch_append_25 : decode prog_3_method_3_code 25 = .ok (.getfield 24, 3) := by decide +kernel
theorem d_Batch_append_28 : decode prog_3_method_3_code 28 = .ok (.iload_n 3, 1) := by decide +kernel
theorem d_Batch_append_29 : decode prog_3_method_3_code 29 = .ok (.iastore, 1) := by decide +kernel
theorem d_Batch_append_30 : decode prog_3_method_3_code 30 = .ok (.aload_n 0, 1) := by decide +kernel
theorem d_Batch_append_31 : decode prog_3_method_3_code 31 = .ok (.getfield 21, 3) := by decide +kernel
theorem d_Batch_append_34 : decode prog_3_method_3_code 34 = .ok (.aload_n 0, 1) := by decide +kernel
theorem d_Batch_append_35 : decode prog_3_method_3_code 35 = .ok (.getfield 24, 3) := by decide +kernel
theorem d_Batch_append_38 : decode prog_3_method_3_code 38 = .ok (.iload 4, 2) := by decide +kernel
theorem d_Batch_append_40 : decode prog_3_method_3_code 40 = .ok (.iastore, 1) := by decide +kernel
theorem d_Batch_append_41 : decode prog_3_method_3_code 41 = .ok (.aload_n 0, 1) := by decide +kernel
theorem d_Batch_append_42 : decode prog_3_method_3_code 42 = .ok (.dup, 1) := by decide +kernel
theorem d_Batch_append_43 : decode prog_3_method_3_code 43 = .ok (.getfield 24, 3) := by decide +kernel
theorem d_Batch_append_46 : decode prog_3_method_3_code 46 = .ok (.iconst 1, 1) := by decide +kernel
theorem d_Batch_append_47 : decode prog_3_method_3_code 47 = .ok (.iadd, 1) := by decide +kernel
theorem d_Batch_append_48 : decode prog_3_method_3_code 48 = .ok (.putfield 24, 3) := by decide +kernel
theorem d_Batch_append_51 : decode prog_3_method_3_code 51 = .ok (.aload_n 0, 1) := by decide +kernel
theorem d_Batch_append_52 : decode prog_3_method_3_code 52 = .ok (.getfield 24, 3) := by decide +kernel
theorem d_Batch_append_55 : decode prog_3_method_3_code 55 = .ok (.ireturn, 1) := by decide +kernel
theorem d_DV_commit_0 : decode prog_1_method_4_code 0 = .ok (.aload_n 0, 1) := by decide +kernel
theorem d_DV_commit_1 : decode prog_1_method_4_code 1 = .ok (.invokevirtual 65, 3) := by decide +kernel
theorem d_DV_commit_4 : decode prog_1_method_4_code 4 = .ok (.istore_n 1, 1) := by decide +kernel
theorem d_DV_commit_5 : decode prog_1_method_4_code 5 = .ok (.aload_n 0, 1) := by decide +kernel
theorem d_DV_commit_6 : decode prog_1_method_4_code 6 = .ok (.getfield 22, 3) := by decide +kernel
theorem d_DV_commit_9 : decode prog_1_method_4_code 9 = .ok (.invokevirtual 61, 3) := by decide +kernel
theorem d_DV_commit_12 : decode prog_1_method_4_code 12 = .ok (.pop, 1) := by decide +kernel
theorem d_DV_commit_13 : decode prog_1_method_4_code 13 = .ok (.iload_n 1, 1) := by decide +kernel
theorem d_DV_commit_14 : decode prog_1_method_4_code 14 = .ok (.ifCond .ne 13, 3) := by decide +kernel
theorem d_DV_commit_17 : decode prog_1_method_4_code 17 = .ok (.new 52, 3) := by decide +kernel
theorem d_DV_commit_20 : decode prog_1_method_4_code 20 = .ok (.dup, 1) := by decide +kernel
theorem d_DV_commit_21 : decode prog_1_method_4_code 21 = .ok (.ldc 68, 2) := by decide +kernel
theorem d_DV_commit_23 : decode prog_1_method_4_code 23 = .ok (.invokespecial 56, 3) := by decide +kernel
theorem d_DV_commit_26 : decode prog_1_method_4_code 26 = .ok (.athrow, 1) := by decide +kernel
theorem d_DV_commit_27 : decode prog_1_method_4_code 27 = .ok (.iconst 0, 1) := by decide +kernel
theorem d_DV_commit_28 : decode prog_1_method_4_code 28 = .ok (.istore_n 2, 1) := by decide +kernel
theorem d_DV_commit_29 : decode prog_1_method_4_code 29 = .ok (.iload_n 2, 1) := by decide +kernel
theorem d_DV_commit_30 : decode prog_1_method_4_code 30 = .ok (.aload_n 0, 1) := by decide +kernel
theorem d_DV_commit_31 : decode prog_1_method_4_code 31 = .ok (.getfield 15, 3) := by decide +kernel
theorem d_DV_commit_34 : decode prog_1_method_4_code 34 = .ok (.if_icmp .ge 18, 3) := by decide +kernel
theorem d_DV_commit_37 : decode prog_1_method_4_code 37 = .ok (.aload_n 0, 1) := by decide +kernel
theorem d_DV_commit_38 : decode prog_1_method_4_code 38 = .ok (.getfield 11, 3) := by decide +kernel
theorem d_DV_commit_41 : decode prog_1_method_4_code 41 = .ok (.iload_n 2, 1) := by decide +kernel
theorem d_DV_commit_42 : decode prog_1_method_4_code 42 = .ok (.aaload, 1) := by decide +kernel
theorem d_DV_commit_43 : decode prog_1_method_4_code 43 = .ok (.invokevirtual 70, 3) := by decide +kernel
theorem d_DV_commit_46 : decode prog_1_method_4_code 46 = .ok (.iinc 2 1, 3) := by decide +kernel
theorem d_DV_commit_49 : decode prog_1_method_4_code 49 = .ok (.goto (-20), 3) := by decide +kernel
theorem d_DV_commit_52 : decode prog_1_method_4_code 52 = .ok (.iconst 0, 1) := by decide +kernel
theorem d_DV_commit_53 : decode prog_1_method_4_code 53 = .ok (.istore_n 2, 1) := by decide +kernel
theorem d_DV_commit_54 : decode prog_1_method_4_code 54 = .ok (.iconst 0, 1) := by decide +kernel
theorem d_DV_commit_55 : decode prog_1_method_4_code 55 = .ok (.istore_n 3, 1) := by decide +kernel
theorem d_DV_commit_56 : decode prog_1_method_4_code 56 = .ok (.iload_n 3, 1) := by decide +kernel
theorem d_DV_commit_57 : decode prog_1_method_4_code 57 = .ok (.iconst 3, 1) := by decide +kernel
theorem d_DV_commit_58 : decode prog_1_method_4_code 58 = .ok (.if_icmp .ge 21, 3) := by decide +kernel
theorem d_DV_commit_61 : decode prog_1_method_4_code 61 = .ok (.iload_n 2, 1) := by decide +kernel
theorem d_DV_commit_62 : decode prog_1_method_4_code 62 = .ok (.aload_n 0, 1) := by decide +kernel
theorem d_DV_commit_63 : decode prog_1_method_4_code 63 = .ok (.getfield 11, 3) := by decide +kernel
theorem d_DV_commit_66 : decode prog_1_method_4_code 66 = .ok (.iload_n 3, 1) := by decide +kernel
theorem d_DV_commit_67 : decode prog_1_method_4_code 67 = .ok (.aaload, 1) := by decide +kernel
theorem d_DV_commit_68 : decode prog_1_method_4_code 68 = .ok (.getfield 73, 3) := by decide +kernel
theorem d_DV_commit_71 : decode prog_1_method_4_code 71 = .ok (.iadd, 1) := by decide +kernel
theorem d_DV_commit_72 : decode prog_1_method_4_code 72 = .ok (.istore_n 2, 1) := by decide +kernel
theorem d_DV_commit_73 : decode prog_1_method_4_code 73 = .ok (.iinc 3 1, 3) := by decide +kernel
theorem d_DV_commit_76 : decode prog_1_method_4_code 76 = .ok (.goto (-20), 3) := by decide +kernel
theorem d_DV_commit_79 : decode prog_1_method_4_code 79 = .ok (.iload_n 2, 1) := by decide +kernel
theorem d_DV_commit_80 : decode prog_1_method_4_code 80 = .ok (.ireturn, 1) := by decide +kernel
theorem d_DV_renewViews_0 : decode prog_1_method_24_code 0 = .ok (.iconst 0, 1) := by decide +kernel
theorem d_DV_renewViews_1 : decode prog_1_method_24_code 1 = .ok (.istore_n 1, 1) := by decide +kernel
theorem d_DV_renewViews_2 : decode prog_1_method_24_code 2 = .ok (.iload_n 1, 1) := by decide +kernel
theorem d_DV_renewViews_3 : decode prog_1_method_24_code 3 = .ok (.aload_n 0, 1) := by decide +kernel
theorem d_DV_renewViews_4 : decode prog_1_method_24_code 4 = .ok (.getfield 15, 3) := by decide +kernel
theorem d_DV_renewViews_7 : decode prog_1_method_24_code 7 = .ok (.if_icmp .ge 54, 3) := by decide +kernel
theorem d_DV_renewViews_10 : decode prog_1_method_24_code 10 = .ok (.aload_n 0, 1) := by decide +kernel
theorem d_DV_renewViews_11 : decode prog_1_method_24_code 11 = .ok (.getfield 11, 3) := by decide +kernel
theorem d_DV_renewViews_14 : decode prog_1_method_24_code 14 = .ok (.iload_n 1, 1) := by decide +kernel
theorem d_DV_renewViews_15 : decode prog_1_method_24_code 15 = .ok (.aaload, 1) := by decide +kernel
theorem d_DV_renewViews_16 : decode prog_1_method_24_code 16 = .ok (.invokevirtual 181, 3) := by decide +kernel
theorem d_DV_renewViews_19 : decode prog_1_method_24_code 19 = .ok (.aload_n 0, 1) := by decide +kernel
theorem d_DV_renewViews_20 : decode prog_1_method_24_code 20 = .ok (.getfield 22, 3) := by decide +kernel
theorem d_DV_renewViews_23 : decode prog_1_method_24_code 23 = .ok (.iload_n 1, 1) := by decide +kernel
theorem d_DV_renewViews_24 : decode prog_1_method_24_code 24 = .ok (.aload_n 0, 1) := by decide +kernel
theorem d_DV_renewViews_25 : decode prog_1_method_24_code 25 = .ok (.getfield 11, 3) := by decide +kernel
theorem d_DV_renewViews_28 : decode prog_1_method_24_code 28 = .ok (.iload_n 1, 1) := by decide +kernel
theorem d_DV_renewViews_29 : decode prog_1_method_24_code 29 = .ok (.aaload, 1) := by decide +kernel
theorem d_DV_renewViews_30 : decode prog_1_method_24_code 30 = .ok (.getfield 106, 3) := by decide +kernel
theorem d_DV_renewViews_33 : decode prog_1_method_24_code 33 = .ok (.invokevirtual 184, 3) := by decide +kernel
theorem d_DV_renewViews_36 : decode prog_1_method_24_code 36 = .ok (.aload_n 0, 1) := by decide +kernel
theorem d_DV_renewViews_37 : decode prog_1_method_24_code 37 = .ok (.getfield 11, 3) := by decide +kernel
theorem d_DV_renewViews_40 : decode prog_1_method_24_code 40 = .ok (.iload_n 1, 1) := by decide +kernel
theorem d_DV_renewViews_41 : decode prog_1_method_24_code 41 = .ok (.aaload, 1) := by decide +kernel
theorem d_DV_renewViews_42 : decode prog_1_method_24_code 42 = .ok (.invokevirtual 176, 3) := by decide +kernel
theorem d_DV_renewViews_45 : decode prog_1_method_24_code 45 = .ok (.ifCond .ne 10, 3) := by decide +kernel
theorem d_DV_renewViews_48 : decode prog_1_method_24_code 48 = .ok (.aload_n 0, 1) := by decide +kernel
theorem d_DV_renewViews_49 : decode prog_1_method_24_code 49 = .ok (.iload_n 1, 1) := by decide +kernel
theorem d_DV_renewViews_50 : decode prog_1_method_24_code 50 = .ok (.invokevirtual 188, 3) := by decide +kernel
theorem d_DV_renewViews_53 : decode prog_1_method_24_code 53 = .ok (.iconst 0, 1) := by decide +kernel
theorem d_DV_renewViews_54 : decode prog_1_method_24_code 54 = .ok (.ireturn, 1) := by decide +kernel
theorem d_DV_renewViews_55 : decode prog_1_method_24_code 55 = .ok (.iinc 1 1, 3) := by decide +kernel
theorem d_DV_renewViews_58 : decode prog_1_method_24_code 58 = .ok (.goto (-56), 3) := by decide +kernel
theorem d_DV_renewViews_61 : decode prog_1_method_24_code 61 = .ok (.iconst 1, 1) := by decide +kernel
theorem d_DV_renewViews_62 : decode prog_1_method_24_code 62 = .ok (.ireturn, 1) := by decide +kernel
theorem d_View_renew_0 : decode prog_12_method_3_code 0 = .ok (.aload_n 0, 1) := by decide +kernel
theorem d_View_renew_1 : decode prog_12_method_3_code 1 = .ok (.invokevirtual 33, 3) := by decide +kernel
theorem d_View_renew_4 : decode prog_12_method_3_code 4 = .ok (.aload_n 0, 1) := by decide +kernel
theorem d_View_renew_5 : decode prog_12_method_3_code 5 = .ok (.getfield 23, 3) := by decide +kernel
theorem d_View_renew_8 : decode prog_12_method_3_code 8 = .ok (.aload_n 0, 1) := by decide +kernel
theorem d_View_renew_9 : decode prog_12_method_3_code 9 = .ok (.getfield 16, 3) := by decide +kernel
theorem d_View_renew_12 : decode prog_12_method_3_code 12 = .ok (.aload_n 0, 1) := by decide +kernel
theorem d_View_renew_13 : decode prog_12_method_3_code 13 = .ok (.getfield 10, 3) := by decide +kernel
theorem d_View_renew_16 : decode prog_12_method_3_code 16 = .ok (.invokevirtual 27, 3) := by decide +kernel
theorem d_View_renew_19 : decode prog_12_method_3_code 19 = .ok (.return_, 1) := by decide +kernel
theorem d_View_exchangeBags_0 : decode prog_12_method_4_code 0 = .ok (.aload_n 0, 1) := by decide +kernel
theorem d_View_exchangeBags_1 : decode prog_12_method_4_code 1 = .ok (.getfield 10, 3) := by decide +kernel
theorem d_View_exchangeBags_4 : decode prog_12_method_4_code 4 = .ok (.astore_n 1, 1) := by decide +kernel
theorem d_View_exchangeBags_5 : decode prog_12_method_4_code 5 = .ok (.aload_n 0, 1) := by decide +kernel
theorem d_View_exchangeBags_6 : decode prog_12_method_4_code 6 = .ok (.aload_n 0, 1) := by decide +kernel
theorem d_View_exchangeBags_7 : decode prog_12_method_4_code 7 = .ok (.getfield 16, 3) := by decide +kernel
theorem d_View_exchangeBags_10 : decode prog_12_method_4_code 10 = .ok (.putfield 10, 3) := by decide +kernel
theorem d_View_exchangeBags_13 : decode prog_12_method_4_code 13 = .ok (.aload_n 0, 1) := by decide +kernel
theorem d_View_exchangeBags_14 : decode prog_12_method_4_code 14 = .ok (.aload_n 1, 1) := by decide +kernel
theorem d_View_exchangeBags_15 : decode prog_12_method_4_code 15 = .ok (.putfield 16, 3) := by decide +kernel
theorem d_View_exchangeBags_18 : decode prog_12_method_4_code 18 = .ok (.return_, 1) := by decide +kernel
theorem d_Distinct_fill_0 : decode prog_4_method_2_code 0 = .ok (.aload_n 0, 1) := by decide +kernel
theorem d_Distinct_fill_1 : decode prog_4_method_2_code 1 = .ok (.getfield 7, 3) := by decide +kernel
theorem d_Distinct_fill_4 : decode prog_4_method_2_code 4 = .ok (.getfield 13, 3) := by decide +kernel
theorem d_Distinct_fill_7 : decode prog_4_method_2_code 7 = .ok (.astore_n 3, 1) := by decide +kernel
theorem d_Distinct_fill_8 : decode prog_4_method_2_code 8 = .ok (.aload_n 2, 1) := by decide +kernel
theorem d_Distinct_fill_9 : decode prog_4_method_2_code 9 = .ok (.aload_n 3, 1) := by decide +kernel
theorem d_Distinct_fill_10 : decode prog_4_method_2_code 10 = .ok (.getfield 19, 3) := by decide +kernel
theorem d_Distinct_fill_13 : decode prog_4_method_2_code 13 = .ok (.invokevirtual 25, 3) := by decide +kernel
theorem d_Distinct_fill_16 : decode prog_4_method_2_code 16 = .ok (.iconst 0, 1) := by decide +kernel
theorem d_Distinct_fill_17 : decode prog_4_method_2_code 17 = .ok (.istore 4, 2) := by decide +kernel
theorem d_Distinct_fill_19 : decode prog_4_method_2_code 19 = .ok (.iload 4, 2) := by decide +kernel
theorem d_Distinct_fill_21 : decode prog_4_method_2_code 21 = .ok (.aload_n 3, 1) := by decide +kernel
theorem d_Distinct_fill_22 : decode prog_4_method_2_code 22 = .ok (.getfield 29, 3) := by decide +kernel
theorem d_Distinct_fill_25 : decode prog_4_method_2_code 25 = .ok (.if_icmp .ge 22, 3) := by decide +kernel
theorem d_Distinct_fill_28 : decode prog_4_method_2_code 28 = .ok (.aload_n 2, 1) := by decide +kernel
theorem d_Distinct_fill_29 : decode prog_4_method_2_code 29 = .ok (.aload_n 3, 1) := by decide +kernel
theorem d_Distinct_fill_30 : decode prog_4_method_2_code 30 = .ok (.iload 4, 2) := by decide +kernel
theorem d_Distinct_fill_32 : decode prog_4_method_2_code 32 = .ok (.iconst 0, 1) := by decide +kernel
theorem d_Distinct_fill_33 : decode prog_4_method_2_code 33 = .ok (.invokevirtual 32, 3) := by decide +kernel
theorem d_Distinct_fill_36 : decode prog_4_method_2_code 36 = .ok (.aload_n 2, 1) := by decide +kernel
theorem d_Distinct_fill_37 : decode prog_4_method_2_code 37 = .ok (.lconst 1, 1) := by decide +kernel
theorem d_Distinct_fill_38 : decode prog_4_method_2_code 38 = .ok (.invokevirtual 36, 3) := by decide +kernel
theorem d_Distinct_fill_41 : decode prog_4_method_2_code 41 = .ok (.iinc 4 1, 3) := by decide +kernel
theorem d_Distinct_fill_44 : decode prog_4_method_2_code 44 = .ok (.goto (-25), 3) := by decide +kernel
theorem d_Distinct_fill_47 : decode prog_4_method_2_code 47 = .ok (.return_, 1) := by decide +kernel
theorem d_Bag_clear_0 : decode prog_2_method_2_code 0 = .ok (.aload_n 0, 1) := by decide +kernel
theorem d_Bag_clear_1 : decode prog_2_method_2_code 1 = .ok (.iload_n 1, 1) := by decide +kernel
theorem d_Bag_clear_2 : decode prog_2_method_2_code 2 = .ok (.putfield 9, 3) := by decide +kernel
theorem d_Bag_clear_5 : decode prog_2_method_2_code 5 = .ok (.aload_n 0, 1) := by decide +kernel
theorem d_Bag_clear_6 : decode prog_2_method_2_code 6 = .ok (.iconst 0, 1) := by decide +kernel
theorem d_Bag_clear_7 : decode prog_2_method_2_code 7 = .ok (.putfield 15, 3) := by decide +kernel
theorem d_Bag_clear_10 : decode prog_2_method_2_code 10 = .ok (.return_, 1) := by decide +kernel
theorem d_Bag_putRow_0 : decode prog_2_method_7_code 0 = .ok (.iconst 0, 1) := by decide +kernel
theorem d_Bag_putRow_1 : decode prog_2_method_7_code 1 = .ok (.istore 4, 2) := by decide +kernel
theorem d_Bag_putRow_3 : decode prog_2_method_7_code 3 = .ok (.iload 4, 2) := by decide +kernel
theorem d_Bag_putRow_5 : decode prog_2_method_7_code 5 = .ok (.aload_n 1, 1) := by decide +kernel
theorem d_Bag_putRow_6 : decode prog_2_method_7_code 6 = .ok (.getfield 9, 3) := by decide +kernel
theorem d_Bag_putRow_9 : decode prog_2_method_7_code 9 = .ok (.if_icmp .ge 24, 3) := by decide +kernel
theorem d_Bag_putRow_12 : decode prog_2_method_7_code 12 = .ok (.aload_n 0, 1) := by decide +kernel
theorem d_Bag_putRow_13 : decode prog_2_method_7_code 13 = .ok (.iload_n 3, 1) := by decide +kernel
theorem d_Bag_putRow_14 : decode prog_2_method_7_code 14 = .ok (.iload 4, 2) := by decide +kernel
theorem d_Bag_putRow_16 : decode prog_2_method_7_code 16 = .ok (.iadd, 1) := by decide +kernel
theorem d_Bag_putRow_17 : decode prog_2_method_7_code 17 = .ok (.aload_n 1, 1) := by decide +kernel
theorem d_Bag_putRow_18 : decode prog_2_method_7_code 18 = .ok (.iload_n 2, 1) := by decide +kernel
theorem d_Bag_putRow_19 : decode prog_2_method_7_code 19 = .ok (.iload 4, 2) := by decide +kernel
theorem d_Bag_putRow_21 : decode prog_2_method_7_code 21 = .ok (.invokevirtual 35, 3) := by decide +kernel
theorem d_Bag_putRow_24 : decode prog_2_method_7_code 24 = .ok (.invokevirtual 39, 3) := by decide +kernel
theorem d_Bag_putRow_27 : decode prog_2_method_7_code 27 = .ok (.iinc 4 1, 3) := by decide +kernel
theorem d_Bag_putRow_30 : decode prog_2_method_7_code 30 = .ok (.goto (-27), 3) := by decide +kernel
theorem d_Bag_putRow_33 : decode prog_2_method_7_code 33 = .ok (.return_, 1) := by decide +kernel
theorem d_Bag_cellAt_0 : decode prog_2_method_4_code 0 = .ok (.aload_n 0, 1) := by decide +kernel
theorem d_Bag_cellAt_1 : decode prog_2_method_4_code 1 = .ok (.getfield 18, 3) := by decide +kernel
theorem d_Bag_cellAt_4 : decode prog_2_method_4_code 4 = .ok (.iload_n 1, 1) := by decide +kernel
theorem d_Bag_cellAt_5 : decode prog_2_method_4_code 5 = .ok (.iconst 4, 1) := by decide +kernel
theorem d_Bag_cellAt_6 : decode prog_2_method_4_code 6 = .ok (.imul, 1) := by decide +kernel
theorem d_Bag_cellAt_7 : decode prog_2_method_4_code 7 = .ok (.iload_n 2, 1) := by decide +kernel
theorem d_Bag_cellAt_8 : decode prog_2_method_4_code 8 = .ok (.iadd, 1) := by decide +kernel
theorem d_Bag_cellAt_9 : decode prog_2_method_4_code 9 = .ok (.iaload, 1) := by decide +kernel
theorem d_Bag_cellAt_10 : decode prog_2_method_4_code 10 = .ok (.ireturn, 1) := by decide +kernel
theorem d_Bag_put_0 : decode prog_2_method_6_code 0 = .ok (.aload_n 0, 1) := by decide +kernel
theorem d_Bag_put_1 : decode prog_2_method_6_code 1 = .ok (.getfield 26, 3) := by decide +kernel
theorem d_Bag_put_4 : decode prog_2_method_6_code 4 = .ok (.iload_n 1, 1) := by decide +kernel
theorem d_Bag_put_5 : decode prog_2_method_6_code 5 = .ok (.iload_n 2, 1) := by decide +kernel
theorem d_Bag_put_6 : decode prog_2_method_6_code 6 = .ok (.iastore, 1) := by decide +kernel
theorem d_Bag_put_7 : decode prog_2_method_6_code 7 = .ok (.return_, 1) := by decide +kernel
theorem d_Bag_add_0 : decode prog_2_method_8_code 0 = .ok (.aload_n 0, 1) := by decide +kernel
theorem d_Bag_add_1 : decode prog_2_method_8_code 1 = .ok (.invokevirtual 43, 3) := by decide +kernel
theorem d_Bag_add_4 : decode prog_2_method_8_code 4 = .ok (.istore_n 3, 1) := by decide +kernel
theorem d_Bag_add_5 : decode prog_2_method_8_code 5 = .ok (.aload_n 0, 1) := by decide +kernel
theorem d_Bag_add_6 : decode prog_2_method_8_code 6 = .ok (.iload_n 3, 1) := by decide +kernel
theorem d_Bag_add_7 : decode prog_2_method_8_code 7 = .ok (.invokevirtual 47, 3) := by decide +kernel
theorem d_Bag_add_10 : decode prog_2_method_8_code 10 = .ok (.ifCond .eq 32, 3) := by decide +kernel
theorem d_Bag_add_13 : decode prog_2_method_8_code 13 = .ok (.aload_n 0, 1) := by decide +kernel
theorem d_Bag_add_14 : decode prog_2_method_8_code 14 = .ok (.getfield 22, 3) := by decide +kernel
theorem d_Bag_add_17 : decode prog_2_method_8_code 17 = .ok (.iload_n 3, 1) := by decide +kernel
theorem d_Bag_add_18 : decode prog_2_method_8_code 18 = .ok (.dup2, 1) := by decide +kernel
theorem d_Bag_add_19 : decode prog_2_method_8_code 19 = .ok (.laload, 1) := by decide +kernel
theorem d_Bag_add_20 : decode prog_2_method_8_code 20 = .ok (.lload_n 1, 1) := by decide +kernel
theorem d_Bag_add_21 : decode prog_2_method_8_code 21 = .ok (.ladd, 1) := by decide +kernel
theorem d_Bag_add_22 : decode prog_2_method_8_code 22 = .ok (.lastore, 1) := by decide +kernel
theorem d_Bag_add_23 : decode prog_2_method_8_code 23 = .ok (.aload_n 0, 1) := by decide +kernel
theorem d_Bag_add_24 : decode prog_2_method_8_code 24 = .ok (.getfield 22, 3) := by decide +kernel
theorem d_Bag_add_27 : decode prog_2_method_8_code 27 = .ok (.iload_n 3, 1) := by decide +kernel
theorem d_Bag_add_28 : decode prog_2_method_8_code 28 = .ok (.laload, 1) := by decide +kernel
theorem d_Bag_add_29 : decode prog_2_method_8_code 29 = .ok (.lconst 0, 1) := by decide +kernel
theorem d_Bag_add_30 : decode prog_2_method_8_code 30 = .ok (.lcmp, 1) := by decide +kernel
theorem d_Bag_add_31 : decode prog_2_method_8_code 31 = .ok (.ifCond .ne 32, 3) := by decide +kernel
theorem d_Bag_add_34 : decode prog_2_method_8_code 34 = .ok (.aload_n 0, 1) := by decide +kernel
theorem d_Bag_add_35 : decode prog_2_method_8_code 35 = .ok (.iload_n 3, 1) := by decide +kernel
theorem d_Bag_add_36 : decode prog_2_method_8_code 36 = .ok (.invokevirtual 51, 3) := by decide +kernel
theorem d_Bag_add_39 : decode prog_2_method_8_code 39 = .ok (.goto 24, 3) := by decide +kernel
theorem d_Bag_add_42 : decode prog_2_method_8_code 42 = .ok (.lload_n 1, 1) := by decide +kernel
theorem d_Bag_add_43 : decode prog_2_method_8_code 43 = .ok (.lconst 0, 1) := by decide +kernel
theorem d_Bag_add_44 : decode prog_2_method_8_code 44 = .ok (.lcmp, 1) := by decide +kernel
theorem d_Bag_add_45 : decode prog_2_method_8_code 45 = .ok (.ifCond .eq 18, 3) := by decide +kernel
theorem d_Bag_add_48 : decode prog_2_method_8_code 48 = .ok (.aload_n 0, 1) := by decide +kernel
theorem d_Bag_add_49 : decode prog_2_method_8_code 49 = .ok (.getfield 15, 3) := by decide +kernel
theorem d_Bag_add_52 : decode prog_2_method_8_code 52 = .ok (.bipush 32, 2) := by decide +kernel
theorem d_Bag_add_54 : decode prog_2_method_8_code 54 = .ok (.if_icmp .ge 9, 3) := by decide +kernel
theorem d_Bag_add_57 : decode prog_2_method_8_code 57 = .ok (.aload_n 0, 1) := by decide +kernel
theorem d_Bag_add_58 : decode prog_2_method_8_code 58 = .ok (.iload_n 3, 1) := by decide +kernel
theorem d_Bag_add_59 : decode prog_2_method_8_code 59 = .ok (.lload_n 1, 1) := by decide +kernel
theorem d_Bag_add_60 : decode prog_2_method_8_code 60 = .ok (.invokevirtual 55, 3) := by decide +kernel
theorem d_Bag_add_63 : decode prog_2_method_8_code 63 = .ok (.return_, 1) := by decide +kernel
theorem d_Bag_placeOfPending_0 : decode prog_2_method_15_code 0 = .ok (.aload_n 0, 1) := by decide +kernel
theorem d_Bag_placeOfPending_1 : decode prog_2_method_15_code 1 = .ok (.getfield 15, 3) := by decide +kernel
theorem d_Bag_placeOfPending_4 : decode prog_2_method_15_code 4 = .ok (.istore_n 1, 1) := by decide +kernel
theorem d_Bag_placeOfPending_5 : decode prog_2_method_15_code 5 = .ok (.iload_n 1, 1) := by decide +kernel
theorem d_Bag_placeOfPending_6 : decode prog_2_method_15_code 6 = .ok (.ifCond .le 24, 3) := by decide +kernel
theorem d_Bag_placeOfPending_9 : decode prog_2_method_15_code 9 = .ok (.aload_n 0, 1) := by decide +kernel
theorem d_Bag_placeOfPending_10 : decode prog_2_method_15_code 10 = .ok (.iload_n 1, 1) := by decide +kernel
theorem d_Bag_placeOfPending_11 : decode prog_2_method_15_code 11 = .ok (.iconst 1, 1) := by decide +kernel
theorem d_Bag_placeOfPending_12 : decode prog_2_method_15_code 12 = .ok (.isub, 1) := by decide +kernel
theorem d_Bag_placeOfPending_13 : decode prog_2_method_15_code 13 = .ok (.aload_n 0, 1) := by decide +kernel
theorem d_Bag_placeOfPending_14 : decode prog_2_method_15_code 14 = .ok (.getfield 26, 3) := by decide +kernel
theorem d_Bag_placeOfPending_17 : decode prog_2_method_15_code 17 = .ok (.iconst 0, 1) := by decide +kernel
theorem d_Bag_placeOfPending_18 : decode prog_2_method_15_code 18 = .ok (.invokevirtual 75, 3) := by decide +kernel
theorem d_Bag_placeOfPending_21 : decode prog_2_method_15_code 21 = .ok (.ifCond .lt 9, 3) := by decide +kernel
theorem d_Bag_placeOfPending_24 : decode prog_2_method_15_code 24 = .ok (.iinc 1 (-1), 3) := by decide +kernel
theorem d_Bag_placeOfPending_27 : decode prog_2_method_15_code 27 = .ok (.goto (-22), 3) := by decide +kernel
theorem d_Bag_placeOfPending_30 : decode prog_2_method_15_code 30 = .ok (.iload_n 1, 1) := by decide +kernel
theorem d_Bag_placeOfPending_31 : decode prog_2_method_15_code 31 = .ok (.ireturn, 1) := by decide +kernel
theorem d_Bag_orderOfCells_0 : decode prog_2_method_14_code 0 = .ok (.iconst 0, 1) := by decide +kernel
theorem d_Bag_orderOfCells_1 : decode prog_2_method_14_code 1 = .ok (.istore 4, 2) := by decide +kernel
theorem d_Bag_orderOfCells_3 : decode prog_2_method_14_code 3 = .ok (.iload 4, 2) := by decide +kernel
theorem d_Bag_orderOfCells_5 : decode prog_2_method_14_code 5 = .ok (.aload_n 0, 1) := by decide +kernel
theorem d_Bag_orderOfCells_6 : decode prog_2_method_14_code 6 = .ok (.getfield 9, 3) := by decide +kernel
theorem d_Bag_orderOfCells_9 : decode prog_2_method_14_code 9 = .ok (.if_icmp .ge 50, 3) := by decide +kernel
theorem d_Bag_orderOfCells_12 : decode prog_2_method_14_code 12 = .ok (.aload_n 0, 1) := by decide +kernel
theorem d_Bag_orderOfCells_13 : decode prog_2_method_14_code 13 = .ok (.getfield 18, 3) := by decide +kernel
theorem d_Bag_orderOfCells_16 : decode prog_2_method_14_code 16 = .ok (.iload_n 1, 1) := by decide +kernel
theorem d_Bag_orderOfCells_17 : decode prog_2_method_14_code 17 = .ok (.iconst 4, 1) := by decide +kernel
theorem d_Bag_orderOfCells_18 : decode prog_2_method_14_code 18 = .ok (.imul, 1) := by decide +kernel
theorem d_Bag_orderOfCells_19 : decode prog_2_method_14_code 19 = .ok (.iload 4, 2) := by decide +kernel
theorem d_Bag_orderOfCells_21 : decode prog_2_method_14_code 21 = .ok (.iadd, 1) := by decide +kernel
theorem d_Bag_orderOfCells_22 : decode prog_2_method_14_code 22 = .ok (.iaload, 1) := by decide +kernel
theorem d_Bag_orderOfCells_23 : decode prog_2_method_14_code 23 = .ok (.istore 5, 2) := by decide +kernel
theorem d_Bag_orderOfCells_25 : decode prog_2_method_14_code 25 = .ok (.aload_n 2, 1) := by decide +kernel
theorem d_Bag_orderOfCells_26 : decode prog_2_method_14_code 26 = .ok (.iload_n 3, 1) := by decide +kernel
theorem d_Bag_orderOfCells_27 : decode prog_2_method_14_code 27 = .ok (.iload 4, 2) := by decide +kernel
theorem d_Bag_orderOfCells_29 : decode prog_2_method_14_code 29 = .ok (.iadd, 1) := by decide +kernel
theorem d_Bag_orderOfCells_30 : decode prog_2_method_14_code 30 = .ok (.iaload, 1) := by decide +kernel
theorem d_Bag_orderOfCells_31 : decode prog_2_method_14_code 31 = .ok (.istore 6, 2) := by decide +kernel
theorem d_Bag_orderOfCells_33 : decode prog_2_method_14_code 33 = .ok (.iload 5, 2) := by decide +kernel
theorem d_Bag_orderOfCells_35 : decode prog_2_method_14_code 35 = .ok (.iload 6, 2) := by decide +kernel
theorem d_Bag_orderOfCells_37 : decode prog_2_method_14_code 37 = .ok (.if_icmp .eq 16, 3) := by decide +kernel
theorem d_Bag_orderOfCells_40 : decode prog_2_method_14_code 40 = .ok (.iload 5, 2) := by decide +kernel
theorem d_Bag_orderOfCells_42 : decode prog_2_method_14_code 42 = .ok (.iload 6, 2) := by decide +kernel
theorem d_Bag_orderOfCells_44 : decode prog_2_method_14_code 44 = .ok (.if_icmp .ge 7, 3) := by decide +kernel
theorem d_Bag_orderOfCells_47 : decode prog_2_method_14_code 47 = .ok (.iconst (-1), 1) := by decide +kernel
theorem d_Bag_orderOfCells_48 : decode prog_2_method_14_code 48 = .ok (.goto 4, 3) := by decide +kernel
theorem d_Bag_orderOfCells_51 : decode prog_2_method_14_code 51 = .ok (.iconst 1, 1) := by decide +kernel
theorem d_Bag_orderOfCells_52 : decode prog_2_method_14_code 52 = .ok (.ireturn, 1) := by decide +kernel
theorem d_Bag_orderOfCells_53 : decode prog_2_method_14_code 53 = .ok (.iinc 4 1, 3) := by decide +kernel
theorem d_Bag_orderOfCells_56 : decode prog_2_method_14_code 56 = .ok (.goto (-53), 3) := by decide +kernel
theorem d_Bag_orderOfCells_59 : decode prog_2_method_14_code 59 = .ok (.iconst 0, 1) := by decide +kernel
theorem d_Bag_orderOfCells_60 : decode prog_2_method_14_code 60 = .ok (.ireturn, 1) := by decide +kernel
theorem d_Bag_isPending_0 : decode prog_2_method_16_code 0 = .ok (.iload_n 1, 1) := by decide +kernel
theorem d_Bag_isPending_1 : decode prog_2_method_16_code 1 = .ok (.aload_n 0, 1) := by decide +kernel
theorem d_Bag_isPending_2 : decode prog_2_method_16_code 2 = .ok (.getfield 15, 3) := by decide +kernel
theorem d_Bag_isPending_5 : decode prog_2_method_16_code 5 = .ok (.if_icmp .ge 20, 3) := by decide +kernel
theorem d_Bag_isPending_8 : decode prog_2_method_16_code 8 = .ok (.aload_n 0, 1) := by decide +kernel
theorem d_Bag_isPending_9 : decode prog_2_method_16_code 9 = .ok (.iload_n 1, 1) := by decide +kernel
theorem d_Bag_isPending_10 : decode prog_2_method_16_code 10 = .ok (.aload_n 0, 1) := by decide +kernel
theorem d_Bag_isPending_11 : decode prog_2_method_16_code 11 = .ok (.getfield 26, 3) := by decide +kernel
theorem d_Bag_isPending_14 : decode prog_2_method_16_code 14 = .ok (.iconst 0, 1) := by decide +kernel
theorem d_Bag_isPending_15 : decode prog_2_method_16_code 15 = .ok (.invokevirtual 75, 3) := by decide +kernel
theorem d_Bag_isPending_18 : decode prog_2_method_16_code 18 = .ok (.ifCond .ne 7, 3) := by decide +kernel
theorem d_Bag_isPending_21 : decode prog_2_method_16_code 21 = .ok (.iconst 1, 1) := by decide +kernel
theorem d_Bag_isPending_22 : decode prog_2_method_16_code 22 = .ok (.goto 4, 3) := by decide +kernel
theorem d_Bag_isPending_25 : decode prog_2_method_16_code 25 = .ok (.iconst 0, 1) := by decide +kernel
theorem d_Bag_isPending_26 : decode prog_2_method_16_code 26 = .ok (.ireturn, 1) := by decide +kernel
theorem d_Bag_remove_0 : decode prog_2_method_18_code 0 = .ok (.aload_n 0, 1) := by decide +kernel
theorem d_Bag_remove_1 : decode prog_2_method_18_code 1 = .ok (.dup, 1) := by decide +kernel
theorem d_Bag_remove_2 : decode prog_2_method_18_code 2 = .ok (.getfield 15, 3) := by decide +kernel
theorem d_Bag_remove_5 : decode prog_2_method_18_code 5 = .ok (.iconst 1, 1) := by decide +kernel
theorem d_Bag_remove_6 : decode prog_2_method_18_code 6 = .ok (.isub, 1) := by decide +kernel
theorem d_Bag_remove_7 : decode prog_2_method_18_code 7 = .ok (.putfield 15, 3) := by decide +kernel
theorem d_Bag_remove_10 : decode prog_2_method_18_code 10 = .ok (.iload_n 1, 1) := by decide +kernel
theorem d_Bag_remove_11 : decode prog_2_method_18_code 11 = .ok (.iconst 4, 1) := by decide +kernel
theorem d_Bag_remove_12 : decode prog_2_method_18_code 12 = .ok (.imul, 1) := by decide +kernel
theorem d_Bag_remove_13 : decode prog_2_method_18_code 13 = .ok (.istore_n 2, 1) := by decide +kernel
theorem d_Bag_remove_14 : decode prog_2_method_18_code 14 = .ok (.aload_n 0, 1) := by decide +kernel
theorem d_Bag_remove_15 : decode prog_2_method_18_code 15 = .ok (.getfield 15, 3) := by decide +kernel
theorem d_Bag_remove_18 : decode prog_2_method_18_code 18 = .ok (.iconst 4, 1) := by decide +kernel
theorem d_Bag_remove_19 : decode prog_2_method_18_code 19 = .ok (.imul, 1) := by decide +kernel
theorem d_Bag_remove_20 : decode prog_2_method_18_code 20 = .ok (.istore_n 3, 1) := by decide +kernel
theorem d_Bag_remove_21 : decode prog_2_method_18_code 21 = .ok (.aload_n 0, 1) := by decide +kernel
theorem d_Bag_remove_22 : decode prog_2_method_18_code 22 = .ok (.getfield 18, 3) := by decide +kernel
theorem d_Bag_remove_25 : decode prog_2_method_18_code 25 = .ok (.iload_n 2, 1) := by decide +kernel
theorem d_Bag_remove_26 : decode prog_2_method_18_code 26 = .ok (.iconst 4, 1) := by decide +kernel
theorem d_Bag_remove_27 : decode prog_2_method_18_code 27 = .ok (.iadd, 1) := by decide +kernel
theorem d_Bag_remove_28 : decode prog_2_method_18_code 28 = .ok (.aload_n 0, 1) := by decide +kernel
theorem d_Bag_remove_29 : decode prog_2_method_18_code 29 = .ok (.getfield 18, 3) := by decide +kernel
theorem d_Bag_remove_32 : decode prog_2_method_18_code 32 = .ok (.iload_n 2, 1) := by decide +kernel
theorem d_Bag_remove_33 : decode prog_2_method_18_code 33 = .ok (.iload_n 3, 1) := by decide +kernel
theorem d_Bag_remove_34 : decode prog_2_method_18_code 34 = .ok (.iload_n 2, 1) := by decide +kernel
theorem d_Bag_remove_35 : decode prog_2_method_18_code 35 = .ok (.isub, 1) := by decide +kernel
theorem d_Bag_remove_36 : decode prog_2_method_18_code 36 = .ok (.invokestatic 29, 3) := by decide +kernel
theorem d_Bag_remove_39 : decode prog_2_method_18_code 39 = .ok (.aload_n 0, 1) := by decide +kernel
theorem d_Bag_remove_40 : decode prog_2_method_18_code 40 = .ok (.getfield 22, 3) := by decide +kernel
theorem d_Bag_remove_43 : decode prog_2_method_18_code 43 = .ok (.iload_n 1, 1) := by decide +kernel
theorem d_Bag_remove_44 : decode prog_2_method_18_code 44 = .ok (.iconst 1, 1) := by decide +kernel
theorem d_Bag_remove_45 : decode prog_2_method_18_code 45 = .ok (.iadd, 1) := by decide +kernel
theorem d_Bag_remove_46 : decode prog_2_method_18_code 46 = .ok (.aload_n 0, 1) := by decide +kernel
theorem d_Bag_remove_47 : decode prog_2_method_18_code 47 = .ok (.getfield 22, 3) := by decide +kernel
theorem d_Bag_remove_50 : decode prog_2_method_18_code 50 = .ok (.iload_n 1, 1) := by decide +kernel
theorem d_Bag_remove_51 : decode prog_2_method_18_code 51 = .ok (.aload_n 0, 1) := by decide +kernel
theorem d_Bag_remove_52 : decode prog_2_method_18_code 52 = .ok (.getfield 15, 3) := by decide +kernel
theorem d_Bag_remove_55 : decode prog_2_method_18_code 55 = .ok (.iload_n 1, 1) := by decide +kernel
theorem d_Bag_remove_56 : decode prog_2_method_18_code 56 = .ok (.isub, 1) := by decide +kernel
theorem d_Bag_remove_57 : decode prog_2_method_18_code 57 = .ok (.invokestatic 29, 3) := by decide +kernel
theorem d_Bag_remove_60 : decode prog_2_method_18_code 60 = .ok (.return_, 1) := by decide +kernel
theorem d_Bag_insert_0 : decode prog_2_method_17_code 0 = .ok (.iload_n 1, 1) := by decide +kernel
theorem d_Bag_insert_1 : decode prog_2_method_17_code 1 = .ok (.iconst 4, 1) := by decide +kernel
theorem d_Bag_insert_2 : decode prog_2_method_17_code 2 = .ok (.imul, 1) := by decide +kernel
theorem d_Bag_insert_3 : decode prog_2_method_17_code 3 = .ok (.istore 4, 2) := by decide +kernel
theorem d_Bag_insert_5 : decode prog_2_method_17_code 5 = .ok (.aload_n 0, 1) := by decide +kernel
theorem d_Bag_insert_6 : decode prog_2_method_17_code 6 = .ok (.getfield 15, 3) := by decide +kernel
theorem d_Bag_insert_9 : decode prog_2_method_17_code 9 = .ok (.iconst 4, 1) := by decide +kernel
theorem d_Bag_insert_10 : decode prog_2_method_17_code 10 = .ok (.imul, 1) := by decide +kernel
theorem d_Bag_insert_11 : decode prog_2_method_17_code 11 = .ok (.istore 5, 2) := by decide +kernel
theorem d_Bag_insert_13 : decode prog_2_method_17_code 13 = .ok (.aload_n 0, 1) := by decide +kernel
theorem d_Bag_insert_14 : decode prog_2_method_17_code 14 = .ok (.getfield 18, 3) := by decide +kernel
theorem d_Bag_insert_17 : decode prog_2_method_17_code 17 = .ok (.iload 4, 2) := by decide +kernel
theorem d_Bag_insert_19 : decode prog_2_method_17_code 19 = .ok (.aload_n 0, 1) := by decide +kernel
theorem d_Bag_insert_20 : decode prog_2_method_17_code 20 = .ok (.getfield 18, 3) := by decide +kernel
theorem d_Bag_insert_23 : decode prog_2_method_17_code 23 = .ok (.iload 4, 2) := by decide +kernel
theorem d_Bag_insert_25 : decode prog_2_method_17_code 25 = .ok (.iconst 4, 1) := by decide +kernel
theorem d_Bag_insert_26 : decode prog_2_method_17_code 26 = .ok (.iadd, 1) := by decide +kernel
theorem d_Bag_insert_27 : decode prog_2_method_17_code 27 = .ok (.iload 5, 2) := by decide +kernel
theorem d_Bag_insert_29 : decode prog_2_method_17_code 29 = .ok (.iload 4, 2) := by decide +kernel
theorem d_Bag_insert_31 : decode prog_2_method_17_code 31 = .ok (.isub, 1) := by decide +kernel
theorem d_Bag_insert_32 : decode prog_2_method_17_code 32 = .ok (.invokestatic 29, 3) := by decide +kernel
theorem d_Bag_insert_35 : decode prog_2_method_17_code 35 = .ok (.aload_n 0, 1) := by decide +kernel
theorem d_Bag_insert_36 : decode prog_2_method_17_code 36 = .ok (.getfield 22, 3) := by decide +kernel
theorem d_Bag_insert_39 : decode prog_2_method_17_code 39 = .ok (.iload_n 1, 1) := by decide +kernel
theorem d_Bag_insert_40 : decode prog_2_method_17_code 40 = .ok (.aload_n 0, 1) := by decide +kernel
theorem d_Bag_insert_41 : decode prog_2_method_17_code 41 = .ok (.getfield 22, 3) := by decide +kernel
theorem d_Bag_insert_44 : decode prog_2_method_17_code 44 = .ok (.iload_n 1, 1) := by decide +kernel
theorem d_Bag_insert_45 : decode prog_2_method_17_code 45 = .ok (.iconst 1, 1) := by decide +kernel
theorem d_Bag_insert_46 : decode prog_2_method_17_code 46 = .ok (.iadd, 1) := by decide +kernel
theorem d_Bag_insert_47 : decode prog_2_method_17_code 47 = .ok (.aload_n 0, 1) := by decide +kernel
theorem d_Bag_insert_48 : decode prog_2_method_17_code 48 = .ok (.getfield 15, 3) := by decide +kernel
theorem d_Bag_insert_51 : decode prog_2_method_17_code 51 = .ok (.iload_n 1, 1) := by decide +kernel
theorem d_Bag_insert_52 : decode prog_2_method_17_code 52 = .ok (.isub, 1) := by decide +kernel
theorem d_Bag_insert_53 : decode prog_2_method_17_code 53 = .ok (.invokestatic 29, 3) := by decide +kernel
theorem d_Bag_insert_56 : decode prog_2_method_17_code 56 = .ok (.aload_n 0, 1) := by decide +kernel
theorem d_Bag_insert_57 : decode prog_2_method_17_code 57 = .ok (.getfield 26, 3) := by decide +kernel
theorem d_Bag_insert_60 : decode prog_2_method_17_code 60 = .ok (.iconst 0, 1) := by decide +kernel
theorem d_Bag_insert_61 : decode prog_2_method_17_code 61 = .ok (.aload_n 0, 1) := by decide +kernel
theorem d_Bag_insert_62 : decode prog_2_method_17_code 62 = .ok (.getfield 18, 3) := by decide +kernel
theorem d_Bag_insert_65 : decode prog_2_method_17_code 65 = .ok (.iload 4, 2) := by decide +kernel
theorem d_Bag_insert_67 : decode prog_2_method_17_code 67 = .ok (.aload_n 0, 1) := by decide +kernel
theorem d_Bag_insert_68 : decode prog_2_method_17_code 68 = .ok (.getfield 9, 3) := by decide +kernel
theorem d_Bag_insert_71 : decode prog_2_method_17_code 71 = .ok (.invokestatic 29, 3) := by decide +kernel
theorem d_Bag_insert_74 : decode prog_2_method_17_code 74 = .ok (.aload_n 0, 1) := by decide +kernel
theorem d_Bag_insert_75 : decode prog_2_method_17_code 75 = .ok (.getfield 22, 3) := by decide +kernel
theorem d_Bag_insert_78 : decode prog_2_method_17_code 78 = .ok (.iload_n 1, 1) := by decide +kernel
theorem d_Bag_insert_79 : decode prog_2_method_17_code 79 = .ok (.lload_n 2, 1) := by decide +kernel
theorem d_Bag_insert_80 : decode prog_2_method_17_code 80 = .ok (.lastore, 1) := by decide +kernel
theorem d_Bag_insert_81 : decode prog_2_method_17_code 81 = .ok (.aload_n 0, 1) := by decide +kernel
theorem d_Bag_insert_82 : decode prog_2_method_17_code 82 = .ok (.dup, 1) := by decide +kernel
theorem d_Bag_insert_83 : decode prog_2_method_17_code 83 = .ok (.getfield 15, 3) := by decide +kernel
theorem d_Bag_insert_86 : decode prog_2_method_17_code 86 = .ok (.iconst 1, 1) := by decide +kernel
theorem d_Bag_insert_87 : decode prog_2_method_17_code 87 = .ok (.iadd, 1) := by decide +kernel
theorem d_Bag_insert_88 : decode prog_2_method_17_code 88 = .ok (.putfield 15, 3) := by decide +kernel
theorem d_Bag_insert_91 : decode prog_2_method_17_code 91 = .ok (.return_, 1) := by decide +kernel
theorem d_Group_fill_0 : decode prog_5_method_2_code 0 = .ok (.aload_n 0, 1) := by decide +kernel
theorem d_Group_fill_1 : decode prog_5_method_2_code 1 = .ok (.getfield 9, 3) := by decide +kernel
theorem d_Group_fill_4 : decode prog_5_method_2_code 4 = .ok (.getfield 25, 3) := by decide +kernel
theorem d_Group_fill_7 : decode prog_5_method_2_code 7 = .ok (.astore_n 3, 1) := by decide +kernel
theorem d_Group_fill_8 : decode prog_5_method_2_code 8 = .ok (.aload_n 2, 1) := by decide +kernel
theorem d_Group_fill_9 : decode prog_5_method_2_code 9 = .ok (.iconst 2, 1) := by decide +kernel
theorem d_Group_fill_10 : decode prog_5_method_2_code 10 = .ok (.invokevirtual 31, 3) := by decide +kernel
theorem d_Group_fill_13 : decode prog_5_method_2_code 13 = .ok (.iconst 0, 1) := by decide +kernel
theorem d_Group_fill_14 : decode prog_5_method_2_code 14 = .ok (.istore 4, 2) := by decide +kernel
theorem d_Group_fill_16 : decode prog_5_method_2_code 16 = .ok (.iload 4, 2) := by decide +kernel
theorem d_Group_fill_18 : decode prog_5_method_2_code 18 = .ok (.aload_n 3, 1) := by decide +kernel
theorem d_Group_fill_19 : decode prog_5_method_2_code 19 = .ok (.getfield 37, 3) := by decide +kernel
theorem d_Group_fill_22 : decode prog_5_method_2_code 22 = .ok (.if_icmp .ge 51, 3) := by decide +kernel
theorem d_Group_fill_25 : decode prog_5_method_2_code 25 = .ok (.aload_n 0, 1) := by decide +kernel
theorem d_Group_fill_26 : decode prog_5_method_2_code 26 = .ok (.aload_n 3, 1) := by decide +kernel
theorem d_Group_fill_27 : decode prog_5_method_2_code 27 = .ok (.iload 4, 2) := by decide +kernel
theorem d_Group_fill_29 : decode prog_5_method_2_code 29 = .ok (.invokevirtual 40, 3) := by decide +kernel
theorem d_Group_fill_32 : decode prog_5_method_2_code 32 = .ok (.ifCond .eq 35, 3) := by decide +kernel
theorem d_Group_fill_35 : decode prog_5_method_2_code 35 = .ok (.aload_n 2, 1) := by decide +kernel
theorem d_Group_fill_36 : decode prog_5_method_2_code 36 = .ok (.iconst 0, 1) := by decide +kernel
theorem d_Group_fill_37 : decode prog_5_method_2_code 37 = .ok (.aload_n 3, 1) := by decide +kernel
theorem d_Group_fill_38 : decode prog_5_method_2_code 38 = .ok (.iload 4, 2) := by decide +kernel
theorem d_Group_fill_40 : decode prog_5_method_2_code 40 = .ok (.aload_n 0, 1) := by decide +kernel
theorem d_Group_fill_41 : decode prog_5_method_2_code 41 = .ok (.getfield 19, 3) := by decide +kernel
theorem d_Group_fill_44 : decode prog_5_method_2_code 44 = .ok (.invokevirtual 44, 3) := by decide +kernel
theorem d_Group_fill_47 : decode prog_5_method_2_code 47 = .ok (.invokevirtual 48, 3) := by decide +kernel
theorem d_Group_fill_50 : decode prog_5_method_2_code 50 = .ok (.aload_n 2, 1) := by decide +kernel
theorem d_Group_fill_51 : decode prog_5_method_2_code 51 = .ok (.iconst 1, 1) := by decide +kernel
theorem d_Group_fill_52 : decode prog_5_method_2_code 52 = .ok (.aload_n 0, 1) := by decide +kernel
theorem d_Group_fill_53 : decode prog_5_method_2_code 53 = .ok (.aload_n 3, 1) := by decide +kernel
theorem d_Group_fill_54 : decode prog_5_method_2_code 54 = .ok (.iload 4, 2) := by decide +kernel
theorem d_Group_fill_56 : decode prog_5_method_2_code 56 = .ok (.invokevirtual 52, 3) := by decide +kernel
theorem d_Group_fill_59 : decode prog_5_method_2_code 59 = .ok (.invokevirtual 48, 3) := by decide +kernel
theorem d_Group_fill_62 : decode prog_5_method_2_code 62 = .ok (.aload_n 2, 1) := by decide +kernel
theorem d_Group_fill_63 : decode prog_5_method_2_code 63 = .ok (.lconst 1, 1) := by decide +kernel
theorem d_Group_fill_64 : decode prog_5_method_2_code 64 = .ok (.invokevirtual 56, 3) := by decide +kernel
theorem d_Group_fill_67 : decode prog_5_method_2_code 67 = .ok (.iinc 4 1, 3) := by decide +kernel
theorem d_Group_fill_70 : decode prog_5_method_2_code 70 = .ok (.goto (-54), 3) := by decide +kernel
theorem d_Group_fill_73 : decode prog_5_method_2_code 73 = .ok (.return_, 1) := by decide +kernel
theorem d_Group_isFirstOfGroup_0 : decode prog_5_method_3_code 0 = .ok (.iconst 0, 1) := by decide +kernel
theorem d_Group_isFirstOfGroup_1 : decode prog_5_method_3_code 1 = .ok (.istore_n 3, 1) := by decide +kernel
theorem d_Group_isFirstOfGroup_2 : decode prog_5_method_3_code 2 = .ok (.iload_n 3, 1) := by decide +kernel
theorem d_Group_isFirstOfGroup_3 : decode prog_5_method_3_code 3 = .ok (.iload_n 2, 1) := by decide +kernel
theorem d_Group_isFirstOfGroup_4 : decode prog_5_method_3_code 4 = .ok (.if_icmp .ge 32, 3) := by decide +kernel
theorem d_Group_isFirstOfGroup_7 : decode prog_5_method_3_code 7 = .ok (.aload_n 1, 1) := by decide +kernel
theorem d_Group_isFirstOfGroup_8 : decode prog_5_method_3_code 8 = .ok (.iload_n 3, 1) := by decide +kernel
theorem d_Group_isFirstOfGroup_9 : decode prog_5_method_3_code 9 = .ok (.aload_n 0, 1) := by decide +kernel
theorem d_Group_isFirstOfGroup_10 : decode prog_5_method_3_code 10 = .ok (.getfield 19, 3) := by decide +kernel
theorem d_Group_isFirstOfGroup_13 : decode prog_5_method_3_code 13 = .ok (.invokevirtual 44, 3) := by decide +kernel
theorem d_Group_isFirstOfGroup_16 : decode prog_5_method_3_code 16 = .ok (.aload_n 1, 1) := by decide +kernel
theorem d_Group_isFirstOfGroup_17 : decode prog_5_method_3_code 17 = .ok (.iload_n 2, 1) := by decide +kernel
theorem d_Group_isFirstOfGroup_18 : decode prog_5_method_3_code 18 = .ok (.aload_n 0, 1) := by decide +kernel
theorem d_Group_isFirstOfGroup_19 : decode prog_5_method_3_code 19 = .ok (.getfield 19, 3) := by decide +kernel
theorem d_Group_isFirstOfGroup_22 : decode prog_5_method_3_code 22 = .ok (.invokevirtual 44, 3) := by decide +kernel
theorem d_Group_isFirstOfGroup_25 : decode prog_5_method_3_code 25 = .ok (.if_icmp .ne 5, 3) := by decide +kernel
theorem d_Group_isFirstOfGroup_28 : decode prog_5_method_3_code 28 = .ok (.iconst 0, 1) := by decide +kernel
theorem d_Group_isFirstOfGroup_29 : decode prog_5_method_3_code 29 = .ok (.ireturn, 1) := by decide +kernel
theorem d_Group_isFirstOfGroup_30 : decode prog_5_method_3_code 30 = .ok (.iinc 3 1, 3) := by decide +kernel
theorem d_Group_isFirstOfGroup_33 : decode prog_5_method_3_code 33 = .ok (.goto (-31), 3) := by decide +kernel
theorem d_Group_isFirstOfGroup_36 : decode prog_5_method_3_code 36 = .ok (.iconst 1, 1) := by decide +kernel
theorem d_Group_isFirstOfGroup_37 : decode prog_5_method_3_code 37 = .ok (.ireturn, 1) := by decide +kernel
theorem d_Group_fold_0 : decode prog_5_method_4_code 0 = .ok (.aload_n 0, 1) := by decide +kernel
theorem d_Group_fold_1 : decode prog_5_method_4_code 1 = .ok (.aload_n 1, 1) := by decide +kernel
theorem d_Group_fold_2 : decode prog_5_method_4_code 2 = .ok (.iload_n 2, 1) := by decide +kernel
theorem d_Group_fold_3 : decode prog_5_method_4_code 3 = .ok (.invokevirtual 60, 3) := by decide +kernel
theorem d_Group_fold_6 : decode prog_5_method_4_code 6 = .ok (.istore_n 3, 1) := by decide +kernel
theorem d_Group_fold_7 : decode prog_5_method_4_code 7 = .ok (.iload_n 2, 1) := by decide +kernel
theorem d_Group_fold_8 : decode prog_5_method_4_code 8 = .ok (.iconst 1, 1) := by decide +kernel
theorem d_Group_fold_9 : decode prog_5_method_4_code 9 = .ok (.iadd, 1) := by decide +kernel
theorem d_Group_fold_10 : decode prog_5_method_4_code 10 = .ok (.istore 4, 2) := by decide +kernel
theorem d_Group_fold_12 : decode prog_5_method_4_code 12 = .ok (.iload 4, 2) := by decide +kernel
theorem d_Group_fold_14 : decode prog_5_method_4_code 14 = .ok (.aload_n 1, 1) := by decide +kernel
theorem d_Group_fold_15 : decode prog_5_method_4_code 15 = .ok (.getfield 37, 3) := by decide +kernel
theorem d_Group_fold_18 : decode prog_5_method_4_code 18 = .ok (.if_icmp .ge 62, 3) := by decide +kernel
theorem d_Group_fold_21 : decode prog_5_method_4_code 21 = .ok (.aload_n 1, 1) := by decide +kernel
theorem d_Group_fold_22 : decode prog_5_method_4_code 22 = .ok (.iload 4, 2) := by decide +kernel
theorem d_Group_fold_24 : decode prog_5_method_4_code 24 = .ok (.aload_n 0, 1) := by decide +kernel
theorem d_Group_fold_25 : decode prog_5_method_4_code 25 = .ok (.getfield 19, 3) := by decide +kernel
theorem d_Group_fold_28 : decode prog_5_method_4_code 28 = .ok (.invokevirtual 44, 3) := by decide +kernel
theorem d_Group_fold_31 : decode prog_5_method_4_code 31 = .ok (.aload_n 1, 1) := by decide +kernel
theorem d_Group_fold_32 : decode prog_5_method_4_code 32 = .ok (.iload_n 2, 1) := by decide +kernel
theorem d_Group_fold_33 : decode prog_5_method_4_code 33 = .ok (.aload_n 0, 1) := by decide +kernel
theorem d_Group_fold_34 : decode prog_5_method_4_code 34 = .ok (.getfield 19, 3) := by decide +kernel
theorem d_Group_fold_37 : decode prog_5_method_4_code 37 = .ok (.invokevirtual 44, 3) := by decide +kernel
theorem d_Group_fold_40 : decode prog_5_method_4_code 40 = .ok (.if_icmp .ne 34, 3) := by decide +kernel
theorem d_Group_fold_43 : decode prog_5_method_4_code 43 = .ok (.aload_n 0, 1) := by decide +kernel
theorem d_Group_fold_44 : decode prog_5_method_4_code 44 = .ok (.aload_n 1, 1) := by decide +kernel
theorem d_Group_fold_45 : decode prog_5_method_4_code 45 = .ok (.iload 4, 2) := by decide +kernel
theorem d_Group_fold_47 : decode prog_5_method_4_code 47 = .ok (.invokevirtual 60, 3) := by decide +kernel
theorem d_Group_fold_50 : decode prog_5_method_4_code 50 = .ok (.istore 5, 2) := by decide +kernel
theorem d_Group_fold_52 : decode prog_5_method_4_code 52 = .ok (.aload_n 0, 1) := by decide +kernel
theorem d_Group_fold_53 : decode prog_5_method_4_code 53 = .ok (.getfield 15, 3) := by decide +kernel
theorem d_Group_fold_56 : decode prog_5_method_4_code 56 = .ok (.iconst 2, 1) := by decide +kernel
theorem d_Group_fold_57 : decode prog_5_method_4_code 57 = .ok (.if_icmp .ne 12, 3) := by decide +kernel
theorem d_Group_fold_60 : decode prog_5_method_4_code 60 = .ok (.iload_n 3, 1) := by decide +kernel
theorem d_Group_fold_61 : decode prog_5_method_4_code 61 = .ok (.iload 5, 2) := by decide +kernel
theorem d_Group_fold_63 : decode prog_5_method_4_code 63 = .ok (.invokestatic 63, 3) := by decide +kernel
theorem d_Group_fold_66 : decode prog_5_method_4_code 66 = .ok (.goto 7, 3) := by decide +kernel
theorem d_Group_fold_69 : decode prog_5_method_4_code 69 = .ok (.iload_n 3, 1) := by decide +kernel
theorem d_Group_fold_70 : decode prog_5_method_4_code 70 = .ok (.iload 5, 2) := by decide +kernel
theorem d_Group_fold_72 : decode prog_5_method_4_code 72 = .ok (.iadd, 1) := by decide +kernel
theorem d_Group_fold_73 : decode prog_5_method_4_code 73 = .ok (.istore_n 3, 1) := by decide +kernel
theorem d_Group_fold_74 : decode prog_5_method_4_code 74 = .ok (.iinc 4 1, 3) := by decide +kernel
theorem d_Group_fold_77 : decode prog_5_method_4_code 77 = .ok (.goto (-65), 3) := by decide +kernel
theorem d_Group_fold_80 : decode prog_5_method_4_code 80 = .ok (.iload_n 3, 1) := by decide +kernel
theorem d_Group_fold_81 : decode prog_5_method_4_code 81 = .ok (.ireturn, 1) := by decide +kernel
theorem d_Group_worth_0 : decode prog_5_method_5_code 0 = .ok (.aload_n 0, 1) := by decide +kernel
theorem d_Group_worth_1 : decode prog_5_method_5_code 1 = .ok (.getfield 15, 3) := by decide +kernel
theorem d_Group_worth_4 : decode prog_5_method_5_code 4 = .ok (.lookupswitch 52 #[(0, 28), (1, 45)], 28) := by decide +kernel
theorem d_Group_worth_32 : decode prog_5_method_5_code 32 = .ok (.aload_n 1, 1) := by decide +kernel
theorem d_Group_worth_33 : decode prog_5_method_5_code 33 = .ok (.iload_n 2, 1) := by decide +kernel
theorem d_Group_worth_34 : decode prog_5_method_5_code 34 = .ok (.aload_n 0, 1) := by decide +kernel
theorem d_Group_worth_35 : decode prog_5_method_5_code 35 = .ok (.getfield 22, 3) := by decide +kernel
theorem d_Group_worth_38 : decode prog_5_method_5_code 38 = .ok (.invokevirtual 44, 3) := by decide +kernel
theorem d_Group_worth_41 : decode prog_5_method_5_code 41 = .ok (.aload_n 1, 1) := by decide +kernel
theorem d_Group_worth_42 : decode prog_5_method_5_code 42 = .ok (.iload_n 2, 1) := by decide +kernel
theorem d_Group_worth_43 : decode prog_5_method_5_code 43 = .ok (.invokevirtual 68, 3) := by decide +kernel
theorem d_Group_worth_46 : decode prog_5_method_5_code 46 = .ok (.l2i, 1) := by decide +kernel
theorem d_Group_worth_47 : decode prog_5_method_5_code 47 = .ok (.imul, 1) := by decide +kernel
theorem d_Group_worth_48 : decode prog_5_method_5_code 48 = .ok (.ireturn, 1) := by decide +kernel
theorem d_Group_worth_49 : decode prog_5_method_5_code 49 = .ok (.aload_n 1, 1) := by decide +kernel
theorem d_Group_worth_50 : decode prog_5_method_5_code 50 = .ok (.iload_n 2, 1) := by decide +kernel
theorem d_Group_worth_51 : decode prog_5_method_5_code 51 = .ok (.invokevirtual 68, 3) := by decide +kernel
theorem d_Group_worth_54 : decode prog_5_method_5_code 54 = .ok (.l2i, 1) := by decide +kernel
theorem d_Group_worth_55 : decode prog_5_method_5_code 55 = .ok (.ireturn, 1) := by decide +kernel
theorem d_Group_worth_56 : decode prog_5_method_5_code 56 = .ok (.aload_n 1, 1) := by decide +kernel
theorem d_Group_worth_57 : decode prog_5_method_5_code 57 = .ok (.iload_n 2, 1) := by decide +kernel
theorem d_Group_worth_58 : decode prog_5_method_5_code 58 = .ok (.aload_n 0, 1) := by decide +kernel
theorem d_Group_worth_59 : decode prog_5_method_5_code 59 = .ok (.getfield 22, 3) := by decide +kernel
theorem d_Group_worth_62 : decode prog_5_method_5_code 62 = .ok (.invokevirtual 44, 3) := by decide +kernel
theorem d_Group_worth_65 : decode prog_5_method_5_code 65 = .ok (.ireturn, 1) := by decide +kernel
theorem d_Bag_timesAt_0 : decode prog_2_method_5_code 0 = .ok (.aload_n 0, 1) := by decide +kernel
theorem d_Bag_timesAt_1 : decode prog_2_method_5_code 1 = .ok (.getfield 22, 3) := by decide +kernel
theorem d_Bag_timesAt_4 : decode prog_2_method_5_code 4 = .ok (.iload_n 1, 1) := by decide +kernel
theorem d_Bag_timesAt_5 : decode prog_2_method_5_code 5 = .ok (.laload, 1) := by decide +kernel
theorem d_Bag_timesAt_6 : decode prog_2_method_5_code 6 = .ok (.lreturn, 1) := by decide +kernel
theorem d_Join_fill_0 : decode prog_6_method_2_code 0 = .ok (.aload_n 2, 1) := by decide +kernel
theorem d_Join_fill_1 : decode prog_6_method_2_code 1 = .ok (.aload_n 0, 1) := by decide +kernel
theorem d_Join_fill_2 : decode prog_6_method_2_code 2 = .ok (.getfield 7, 3) := by decide +kernel
theorem d_Join_fill_5 : decode prog_6_method_2_code 5 = .ok (.getfield 23, 3) := by decide +kernel
theorem d_Join_fill_8 : decode prog_6_method_2_code 8 = .ok (.getfield 29, 3) := by decide +kernel
theorem d_Join_fill_11 : decode prog_6_method_2_code 11 = .ok (.aload_n 0, 1) := by decide +kernel
theorem d_Join_fill_12 : decode prog_6_method_2_code 12 = .ok (.getfield 13, 3) := by decide +kernel
theorem d_Join_fill_15 : decode prog_6_method_2_code 15 = .ok (.getfield 23, 3) := by decide +kernel
theorem d_Join_fill_18 : decode prog_6_method_2_code 18 = .ok (.getfield 29, 3) := by decide +kernel
theorem d_Join_fill_21 : decode prog_6_method_2_code 21 = .ok (.iadd, 1) := by decide +kernel
theorem d_Join_fill_22 : decode prog_6_method_2_code 22 = .ok (.invokevirtual 34, 3) := by decide +kernel
theorem d_Join_fill_25 : decode prog_6_method_2_code 25 = .ok (.iconst 0, 1) := by decide +kernel
theorem d_Join_fill_26 : decode prog_6_method_2_code 26 = .ok (.istore_n 3, 1) := by decide +kernel
theorem d_Join_fill_27 : decode prog_6_method_2_code 27 = .ok (.iload_n 3, 1) := by decide +kernel
theorem d_Join_fill_28 : decode prog_6_method_2_code 28 = .ok (.aload_n 0, 1) := by decide +kernel
theorem d_Join_fill_29 : decode prog_6_method_2_code 29 = .ok (.getfield 7, 3) := by decide +kernel
theorem d_Join_fill_32 : decode prog_6_method_2_code 32 = .ok (.getfield 23, 3) := by decide +kernel
theorem d_Join_fill_35 : decode prog_6_method_2_code 35 = .ok (.getfield 38, 3) := by decide +kernel
theorem d_Join_fill_38 : decode prog_6_method_2_code 38 = .ok (.if_icmp .ge 15, 3) := by decide +kernel
theorem d_Join_fill_41 : decode prog_6_method_2_code 41 = .ok (.aload_n 0, 1) := by decide +kernel
theorem d_Join_fill_42 : decode prog_6_method_2_code 42 = .ok (.iload_n 3, 1) := by decide +kernel
theorem d_Join_fill_43 : decode prog_6_method_2_code 43 = .ok (.aload_n 2, 1) := by decide +kernel
theorem d_Join_fill_44 : decode prog_6_method_2_code 44 = .ok (.invokevirtual 41, 3) := by decide +kernel
theorem d_Join_fill_47 : decode prog_6_method_2_code 47 = .ok (.iinc 3 1, 3) := by decide +kernel
theorem d_Join_fill_50 : decode prog_6_method_2_code 50 = .ok (.goto (-23), 3) := by decide +kernel
theorem d_Join_fill_53 : decode prog_6_method_2_code 53 = .ok (.return_, 1) := by decide +kernel
theorem d_Join_addPartners_0 : decode prog_6_method_3_code 0 = .ok (.aload_n 0, 1) := by decide +kernel
theorem d_Join_addPartners_1 : decode prog_6_method_3_code 1 = .ok (.getfield 7, 3) := by decide +kernel
theorem d_Join_addPartners_4 : decode prog_6_method_3_code 4 = .ok (.getfield 23, 3) := by decide +kernel
theorem d_Join_addPartners_7 : decode prog_6_method_3_code 7 = .ok (.astore_n 3, 1) := by decide +kernel
theorem d_Join_addPartners_8 : decode prog_6_method_3_code 8 = .ok (.aload_n 0, 1) := by decide +kernel
theorem d_Join_addPartners_9 : decode prog_6_method_3_code 9 = .ok (.getfield 13, 3) := by decide +kernel
theorem d_Join_addPartners_12 : decode prog_6_method_3_code 12 = .ok (.getfield 23, 3) := by decide +kernel
theorem d_Join_addPartners_15 : decode prog_6_method_3_code 15 = .ok (.astore 4, 2) := by decide +kernel
theorem d_Join_addPartners_17 : decode prog_6_method_3_code 17 = .ok (.iconst 0, 1) := by decide +kernel
theorem d_Join_addPartners_18 : decode prog_6_method_3_code 18 = .ok (.istore 5, 2) := by decide +kernel
theorem d_Join_addPartners_20 : decode prog_6_method_3_code 20 = .ok (.iload 5, 2) := by decide +kernel
theorem d_Join_addPartners_22 : decode prog_6_method_3_code 22 = .ok (.aload 4, 2) := by decide +kernel
theorem d_Join_addPartners_24 : decode prog_6_method_3_code 24 = .ok (.getfield 38, 3) := by decide +kernel
theorem d_Join_addPartners_27 : decode prog_6_method_3_code 27 = .ok (.if_icmp .ge 68, 3) := by decide +kernel
theorem d_Join_addPartners_30 : decode prog_6_method_3_code 30 = .ok (.aload_n 3, 1) := by decide +kernel
theorem d_Join_addPartners_31 : decode prog_6_method_3_code 31 = .ok (.iload_n 1, 1) := by decide +kernel
theorem d_Join_addPartners_32 : decode prog_6_method_3_code 32 = .ok (.aload_n 0, 1) := by decide +kernel
theorem d_Join_addPartners_33 : decode prog_6_method_3_code 33 = .ok (.getfield 16, 3) := by decide +kernel
theorem d_Join_addPartners_36 : decode prog_6_method_3_code 36 = .ok (.invokevirtual 45, 3) := by decide +kernel
theorem d_Join_addPartners_39 : decode prog_6_method_3_code 39 = .ok (.aload 4, 2) := by decide +kernel
theorem d_Join_addPartners_41 : decode prog_6_method_3_code 41 = .ok (.iload 5, 2) := by decide +kernel
theorem d_Join_addPartners_43 : decode prog_6_method_3_code 43 = .ok (.aload_n 0, 1) := by decide +kernel
theorem d_Join_addPartners_44 : decode prog_6_method_3_code 44 = .ok (.getfield 20, 3) := by decide +kernel
theorem d_Join_addPartners_47 : decode prog_6_method_3_code 47 = .ok (.invokevirtual 45, 3) := by decide +kernel
theorem d_Join_addPartners_50 : decode prog_6_method_3_code 50 = .ok (.if_icmp .ne 39, 3) := by decide +kernel
theorem d_Join_addPartners_53 : decode prog_6_method_3_code 53 = .ok (.aload_n 2, 1) := by decide +kernel
theorem d_Join_addPartners_54 : decode prog_6_method_3_code 54 = .ok (.aload_n 3, 1) := by decide +kernel
theorem d_Join_addPartners_55 : decode prog_6_method_3_code 55 = .ok (.iload_n 1, 1) := by decide +kernel
theorem d_Join_addPartners_56 : decode prog_6_method_3_code 56 = .ok (.iconst 0, 1) := by decide +kernel
theorem d_Join_addPartners_57 : decode prog_6_method_3_code 57 = .ok (.invokevirtual 49, 3) := by decide +kernel
theorem d_Join_addPartners_60 : decode prog_6_method_3_code 60 = .ok (.aload_n 2, 1) := by decide +kernel
theorem d_Join_addPartners_61 : decode prog_6_method_3_code 61 = .ok (.aload 4, 2) := by decide +kernel
theorem d_Join_addPartners_63 : decode prog_6_method_3_code 63 = .ok (.iload 5, 2) := by decide +kernel
theorem d_Join_addPartners_65 : decode prog_6_method_3_code 65 = .ok (.aload_n 3, 1) := by decide +kernel
theorem d_Join_addPartners_66 : decode prog_6_method_3_code 66 = .ok (.getfield 29, 3) := by decide +kernel
theorem d_Join_addPartners_69 : decode prog_6_method_3_code 69 = .ok (.invokevirtual 49, 3) := by decide +kernel
theorem d_Join_addPartners_72 : decode prog_6_method_3_code 72 = .ok (.aload_n 2, 1) := by decide +kernel
theorem d_Join_addPartners_73 : decode prog_6_method_3_code 73 = .ok (.aload_n 3, 1) := by decide +kernel
theorem d_Join_addPartners_74 : decode prog_6_method_3_code 74 = .ok (.iload_n 1, 1) := by decide +kernel
theorem d_Join_addPartners_75 : decode prog_6_method_3_code 75 = .ok (.invokevirtual 53, 3) := by decide +kernel
theorem d_Join_addPartners_78 : decode prog_6_method_3_code 78 = .ok (.aload 4, 2) := by decide +kernel
theorem d_Join_addPartners_80 : decode prog_6_method_3_code 80 = .ok (.iload 5, 2) := by decide +kernel
theorem d_Join_addPartners_82 : decode prog_6_method_3_code 82 = .ok (.invokevirtual 53, 3) := by decide +kernel
theorem d_Join_addPartners_85 : decode prog_6_method_3_code 85 = .ok (.lmul, 1) := by decide +kernel
theorem d_Join_addPartners_86 : decode prog_6_method_3_code 86 = .ok (.invokevirtual 57, 3) := by decide +kernel
theorem d_Join_addPartners_89 : decode prog_6_method_3_code 89 = .ok (.iinc 5 1, 3) := by decide +kernel
theorem d_Join_addPartners_92 : decode prog_6_method_3_code 92 = .ok (.goto (-72), 3) := by decide +kernel
theorem d_Join_addPartners_95 : decode prog_6_method_3_code 95 = .ok (.return_, 1) := by decide +kernel
theorem d_Project_fill_0 : decode prog_8_method_2_code 0 = .ok (.aload_n 0, 1) := by decide +kernel
theorem d_Project_fill_1 : decode prog_8_method_2_code 1 = .ok (.getfield 7, 3) := by decide +kernel
theorem d_Project_fill_4 : decode prog_8_method_2_code 4 = .ok (.getfield 20, 3) := by decide +kernel
theorem d_Project_fill_7 : decode prog_8_method_2_code 7 = .ok (.astore_n 3, 1) := by decide +kernel
theorem d_Project_fill_8 : decode prog_8_method_2_code 8 = .ok (.aload_n 2, 1) := by decide +kernel
theorem d_Project_fill_9 : decode prog_8_method_2_code 9 = .ok (.aload_n 0, 1) := by decide +kernel
theorem d_Project_fill_10 : decode prog_8_method_2_code 10 = .ok (.getfield 13, 3) := by decide +kernel
theorem d_Project_fill_13 : decode prog_8_method_2_code 13 = .ok (.invokevirtual 26, 3) := by decide +kernel
theorem d_Project_fill_16 : decode prog_8_method_2_code 16 = .ok (.iconst 0, 1) := by decide +kernel
theorem d_Project_fill_17 : decode prog_8_method_2_code 17 = .ok (.istore 4, 2) := by decide +kernel
theorem d_Project_fill_19 : decode prog_8_method_2_code 19 = .ok (.iload 4, 2) := by decide +kernel
theorem d_Project_fill_21 : decode prog_8_method_2_code 21 = .ok (.aload_n 3, 1) := by decide +kernel
theorem d_Project_fill_22 : decode prog_8_method_2_code 22 = .ok (.getfield 32, 3) := by decide +kernel
theorem d_Project_fill_25 : decode prog_8_method_2_code 25 = .ok (.if_icmp .ge 58, 3) := by decide +kernel
theorem d_Project_fill_28 : decode prog_8_method_2_code 28 = .ok (.iconst 0, 1) := by decide +kernel
theorem d_Project_fill_29 : decode prog_8_method_2_code 29 = .ok (.istore 5, 2) := by decide +kernel
theorem d_Project_fill_31 : decode prog_8_method_2_code 31 = .ok (.iload 5, 2) := by decide +kernel
theorem d_Project_fill_33 : decode prog_8_method_2_code 33 = .ok (.aload_n 0, 1) := by decide +kernel
theorem d_Project_fill_34 : decode prog_8_method_2_code 34 = .ok (.getfield 13, 3) := by decide +kernel
theorem d_Project_fill_37 : decode prog_8_method_2_code 37 = .ok (.if_icmp .ge 30, 3) := by decide +kernel
theorem d_Project_fill_40 : decode prog_8_method_2_code 40 = .ok (.aload_n 2, 1) := by decide +kernel
theorem d_Project_fill_41 : decode prog_8_method_2_code 41 = .ok (.iload 5, 2) := by decide +kernel
theorem d_Project_fill_43 : decode prog_8_method_2_code 43 = .ok (.aload_n 3, 1) := by decide +kernel
theorem d_Project_fill_44 : decode prog_8_method_2_code 44 = .ok (.iload 4, 2) := by decide +kernel
theorem d_Project_fill_46 : decode prog_8_method_2_code 46 = .ok (.aload_n 0, 1) := by decide +kernel
theorem d_Project_fill_47 : decode prog_8_method_2_code 47 = .ok (.getfield 17, 3) := by decide +kernel
theorem d_Project_fill_50 : decode prog_8_method_2_code 50 = .ok (.iload 5, 2) := by decide +kernel
theorem d_Project_fill_52 : decode prog_8_method_2_code 52 = .ok (.invokestatic 35, 3) := by decide +kernel
theorem d_Project_fill_55 : decode prog_8_method_2_code 55 = .ok (.invokevirtual 41, 3) := by decide +kernel
theorem d_Project_fill_58 : decode prog_8_method_2_code 58 = .ok (.invokevirtual 44, 3) := by decide +kernel
theorem d_Project_fill_61 : decode prog_8_method_2_code 61 = .ok (.iinc 5 1, 3) := by decide +kernel
theorem d_Project_fill_64 : decode prog_8_method_2_code 64 = .ok (.goto (-33), 3) := by decide +kernel
theorem d_Project_fill_67 : decode prog_8_method_2_code 67 = .ok (.aload_n 2, 1) := by decide +kernel
theorem d_Project_fill_68 : decode prog_8_method_2_code 68 = .ok (.aload_n 3, 1) := by decide +kernel
theorem d_Project_fill_69 : decode prog_8_method_2_code 69 = .ok (.iload 4, 2) := by decide +kernel
theorem d_Project_fill_71 : decode prog_8_method_2_code 71 = .ok (.invokevirtual 48, 3) := by decide +kernel
theorem d_Project_fill_74 : decode prog_8_method_2_code 74 = .ok (.invokevirtual 52, 3) := by decide +kernel
theorem d_Project_fill_77 : decode prog_8_method_2_code 77 = .ok (.iinc 4 1, 3) := by decide +kernel
theorem d_Project_fill_80 : decode prog_8_method_2_code 80 = .ok (.goto (-61), 3) := by decide +kernel
theorem d_Project_fill_83 : decode prog_8_method_2_code 83 = .ok (.return_, 1) := by decide +kernel
theorem d_DV_columnInBits_0 : decode prog_1_method_19_code 0 = .ok (.iload_n 0, 1) := by decide +kernel
theorem d_DV_columnInBits_1 : decode prog_1_method_19_code 1 = .ok (.iconst 4, 1) := by decide +kernel
theorem d_DV_columnInBits_2 : decode prog_1_method_19_code 2 = .ok (.iload_n 1, 1) := by decide +kernel
theorem d_DV_columnInBits_3 : decode prog_1_method_19_code 3 = .ok (.imul, 1) := by decide +kernel
theorem d_DV_columnInBits_4 : decode prog_1_method_19_code 4 = .ok (.ishr, 1) := by decide +kernel
theorem d_DV_columnInBits_5 : decode prog_1_method_19_code 5 = .ok (.bipush 15, 2) := by decide +kernel
theorem d_DV_columnInBits_7 : decode prog_1_method_19_code 7 = .ok (.iand, 1) := by decide +kernel
theorem d_DV_columnInBits_8 : decode prog_1_method_19_code 8 = .ok (.ireturn, 1) := by decide +kernel
theorem d_Select_fill_0 : decode prog_9_method_2_code 0 = .ok (.aload_n 0, 1) := by decide +kernel
theorem d_Select_fill_1 : decode prog_9_method_2_code 1 = .ok (.getfield 9, 3) := by decide +kernel
theorem d_Select_fill_4 : decode prog_9_method_2_code 4 = .ok (.getfield 25, 3) := by decide +kernel
theorem d_Select_fill_7 : decode prog_9_method_2_code 7 = .ok (.astore_n 3, 1) := by decide +kernel
theorem d_Select_fill_8 : decode prog_9_method_2_code 8 = .ok (.aload_n 2, 1) := by decide +kernel
theorem d_Select_fill_9 : decode prog_9_method_2_code 9 = .ok (.aload_n 3, 1) := by decide +kernel
theorem d_Select_fill_10 : decode prog_9_method_2_code 10 = .ok (.getfield 31, 3) := by decide +kernel
theorem d_Select_fill_13 : decode prog_9_method_2_code 13 = .ok (.invokevirtual 36, 3) := by decide +kernel
theorem d_Select_fill_16 : decode prog_9_method_2_code 16 = .ok (.iconst 0, 1) := by decide +kernel
theorem d_Select_fill_17 : decode prog_9_method_2_code 17 = .ok (.istore 4, 2) := by decide +kernel
theorem d_Select_fill_19 : decode prog_9_method_2_code 19 = .ok (.iload 4, 2) := by decide +kernel
theorem d_Select_fill_21 : decode prog_9_method_2_code 21 = .ok (.aload_n 3, 1) := by decide +kernel
theorem d_Select_fill_22 : decode prog_9_method_2_code 22 = .ok (.getfield 40, 3) := by decide +kernel
theorem d_Select_fill_25 : decode prog_9_method_2_code 25 = .ok (.if_icmp .ge 44, 3) := by decide +kernel
theorem d_Select_fill_28 : decode prog_9_method_2_code 28 = .ok (.aload_n 0, 1) := by decide +kernel
theorem d_Select_fill_29 : decode prog_9_method_2_code 29 = .ok (.aload_n 3, 1) := by decide +kernel
theorem d_Select_fill_30 : decode prog_9_method_2_code 30 = .ok (.iload 4, 2) := by decide +kernel
theorem d_Select_fill_32 : decode prog_9_method_2_code 32 = .ok (.aload_n 0, 1) := by decide +kernel
theorem d_Select_fill_33 : decode prog_9_method_2_code 33 = .ok (.getfield 15, 3) := by decide +kernel
theorem d_Select_fill_36 : decode prog_9_method_2_code 36 = .ok (.invokevirtual 43, 3) := by decide +kernel
theorem d_Select_fill_39 : decode prog_9_method_2_code 39 = .ok (.invokevirtual 47, 3) := by decide +kernel
theorem d_Select_fill_42 : decode prog_9_method_2_code 42 = .ok (.ifCond .eq 21, 3) := by decide +kernel
theorem d_Select_fill_45 : decode prog_9_method_2_code 45 = .ok (.aload_n 2, 1) := by decide +kernel
theorem d_Select_fill_46 : decode prog_9_method_2_code 46 = .ok (.aload_n 3, 1) := by decide +kernel
theorem d_Select_fill_47 : decode prog_9_method_2_code 47 = .ok (.iload 4, 2) := by decide +kernel
theorem d_Select_fill_49 : decode prog_9_method_2_code 49 = .ok (.iconst 0, 1) := by decide +kernel
theorem d_Select_fill_50 : decode prog_9_method_2_code 50 = .ok (.invokevirtual 51, 3) := by decide +kernel
theorem d_Select_fill_53 : decode prog_9_method_2_code 53 = .ok (.aload_n 2, 1) := by decide +kernel
theorem d_Select_fill_54 : decode prog_9_method_2_code 54 = .ok (.aload_n 3, 1) := by decide +kernel
theorem d_Select_fill_55 : decode prog_9_method_2_code 55 = .ok (.iload 4, 2) := by decide +kernel
theorem d_Select_fill_57 : decode prog_9_method_2_code 57 = .ok (.invokevirtual 55, 3) := by decide +kernel
theorem d_Select_fill_60 : decode prog_9_method_2_code 60 = .ok (.invokevirtual 59, 3) := by decide +kernel
theorem d_Select_fill_63 : decode prog_9_method_2_code 63 = .ok (.iinc 4 1, 3) := by decide +kernel
theorem d_Select_fill_66 : decode prog_9_method_2_code 66 = .ok (.goto (-47), 3) := by decide +kernel
theorem d_Select_fill_69 : decode prog_9_method_2_code 69 = .ok (.return_, 1) := by decide +kernel
theorem d_Select_passes_0 : decode prog_9_method_3_code 0 = .ok (.aload_n 0, 1) := by decide +kernel
theorem d_Select_passes_1 : decode prog_9_method_3_code 1 = .ok (.getfield 19, 3) := by decide +kernel
theorem d_Select_passes_4 : decode prog_9_method_3_code 4 = .ok (.lookupswitch 56 #[(0, 28), (1, 42)], 28) := by decide +kernel
theorem d_Select_passes_32 : decode prog_9_method_3_code 32 = .ok (.iload_n 1, 1) := by decide +kernel
theorem d_Select_passes_33 : decode prog_9_method_3_code 33 = .ok (.aload_n 0, 1) := by decide +kernel
theorem d_Select_passes_34 : decode prog_9_method_3_code 34 = .ok (.getfield 22, 3) := by decide +kernel
theorem d_Select_passes_37 : decode prog_9_method_3_code 37 = .ok (.if_icmp .ge 7, 3) := by decide +kernel
theorem d_Select_passes_40 : decode prog_9_method_3_code 40 = .ok (.iconst 1, 1) := by decide +kernel
theorem d_Select_passes_41 : decode prog_9_method_3_code 41 = .ok (.goto 4, 3) := by decide +kernel
theorem d_Select_passes_44 : decode prog_9_method_3_code 44 = .ok (.iconst 0, 1) := by decide +kernel
theorem d_Select_passes_45 : decode prog_9_method_3_code 45 = .ok (.ireturn, 1) := by decide +kernel
theorem d_Select_passes_46 : decode prog_9_method_3_code 46 = .ok (.iload_n 1, 1) := by decide +kernel
theorem d_Select_passes_47 : decode prog_9_method_3_code 47 = .ok (.aload_n 0, 1) := by decide +kernel
theorem d_Select_passes_48 : decode prog_9_method_3_code 48 = .ok (.getfield 22, 3) := by decide +kernel
theorem d_Select_passes_51 : decode prog_9_method_3_code 51 = .ok (.if_icmp .ne 7, 3) := by decide +kernel
theorem d_Select_passes_54 : decode prog_9_method_3_code 54 = .ok (.iconst 1, 1) := by decide +kernel
theorem d_Select_passes_55 : decode prog_9_method_3_code 55 = .ok (.goto 4, 3) := by decide +kernel
theorem d_Select_passes_58 : decode prog_9_method_3_code 58 = .ok (.iconst 0, 1) := by decide +kernel
theorem d_Select_passes_59 : decode prog_9_method_3_code 59 = .ok (.ireturn, 1) := by decide +kernel
theorem d_Select_passes_60 : decode prog_9_method_3_code 60 = .ok (.iload_n 1, 1) := by decide +kernel
theorem d_Select_passes_61 : decode prog_9_method_3_code 61 = .ok (.aload_n 0, 1) := by decide +kernel
theorem d_Select_passes_62 : decode prog_9_method_3_code 62 = .ok (.getfield 22, 3) := by decide +kernel
theorem d_Select_passes_65 : decode prog_9_method_3_code 65 = .ok (.if_icmp .le 7, 3) := by decide +kernel
theorem d_Select_passes_68 : decode prog_9_method_3_code 68 = .ok (.iconst 1, 1) := by decide +kernel
theorem d_Select_passes_69 : decode prog_9_method_3_code 69 = .ok (.goto 4, 3) := by decide +kernel
theorem d_Select_passes_72 : decode prog_9_method_3_code 72 = .ok (.iconst 0, 1) := by decide +kernel
theorem d_Select_passes_73 : decode prog_9_method_3_code 73 = .ok (.ireturn, 1) := by decide +kernel
theorem d_Table_fill_0 : decode prog_10_method_2_code 0 = .ok (.aload_n 2, 1) := by decide +kernel
theorem d_Table_fill_1 : decode prog_10_method_2_code 1 = .ok (.aload_n 1, 1) := by decide +kernel
theorem d_Table_fill_2 : decode prog_10_method_2_code 2 = .ok (.invokevirtual 9, 3) := by decide +kernel
theorem d_Table_fill_5 : decode prog_10_method_2_code 5 = .ok (.return_, 1) := by decide +kernel
theorem d_Bag_copy_0 : decode prog_2_method_3_code 0 = .ok (.aload_n 0, 1) := by decide +kernel
theorem d_Bag_copy_1 : decode prog_2_method_3_code 1 = .ok (.aload_n 1, 1) := by decide +kernel
theorem d_Bag_copy_2 : decode prog_2_method_3_code 2 = .ok (.getfield 9, 3) := by decide +kernel
theorem d_Bag_copy_5 : decode prog_2_method_3_code 5 = .ok (.putfield 9, 3) := by decide +kernel
theorem d_Bag_copy_8 : decode prog_2_method_3_code 8 = .ok (.aload_n 0, 1) := by decide +kernel
theorem d_Bag_copy_9 : decode prog_2_method_3_code 9 = .ok (.aload_n 1, 1) := by decide +kernel
theorem d_Bag_copy_10 : decode prog_2_method_3_code 10 = .ok (.getfield 15, 3) := by decide +kernel
theorem d_Bag_copy_13 : decode prog_2_method_3_code 13 = .ok (.putfield 15, 3) := by decide +kernel
theorem d_Bag_copy_16 : decode prog_2_method_3_code 16 = .ok (.aload_n 1, 1) := by decide +kernel
theorem d_Bag_copy_17 : decode prog_2_method_3_code 17 = .ok (.getfield 18, 3) := by decide +kernel
theorem d_Bag_copy_20 : decode prog_2_method_3_code 20 = .ok (.iconst 0, 1) := by decide +kernel
theorem d_Bag_copy_21 : decode prog_2_method_3_code 21 = .ok (.aload_n 0, 1) := by decide +kernel
theorem d_Bag_copy_22 : decode prog_2_method_3_code 22 = .ok (.getfield 18, 3) := by decide +kernel
theorem d_Bag_copy_25 : decode prog_2_method_3_code 25 = .ok (.iconst 0, 1) := by decide +kernel
theorem d_Bag_copy_26 : decode prog_2_method_3_code 26 = .ok (.aload_n 0, 1) := by decide +kernel
theorem d_Bag_copy_27 : decode prog_2_method_3_code 27 = .ok (.getfield 15, 3) := by decide +kernel
theorem d_Bag_copy_30 : decode prog_2_method_3_code 30 = .ok (.iconst 4, 1) := by decide +kernel
theorem d_Bag_copy_31 : decode prog_2_method_3_code 31 = .ok (.imul, 1) := by decide +kernel
theorem d_Bag_copy_32 : decode prog_2_method_3_code 32 = .ok (.invokestatic 29, 3) := by decide +kernel
theorem d_Bag_copy_35 : decode prog_2_method_3_code 35 = .ok (.aload_n 1, 1) := by decide +kernel
theorem d_Bag_copy_36 : decode prog_2_method_3_code 36 = .ok (.getfield 22, 3) := by decide +kernel
theorem d_Bag_copy_39 : decode prog_2_method_3_code 39 = .ok (.iconst 0, 1) := by decide +kernel
theorem d_Bag_copy_40 : decode prog_2_method_3_code 40 = .ok (.aload_n 0, 1) := by decide +kernel
theorem d_Bag_copy_41 : decode prog_2_method_3_code 41 = .ok (.getfield 22, 3) := by decide +kernel
theorem d_Bag_copy_44 : decode prog_2_method_3_code 44 = .ok (.iconst 0, 1) := by decide +kernel
theorem d_Bag_copy_45 : decode prog_2_method_3_code 45 = .ok (.aload_n 0, 1) := by decide +kernel
theorem d_Bag_copy_46 : decode prog_2_method_3_code 46 = .ok (.getfield 15, 3) := by decide +kernel
theorem d_Bag_copy_49 : decode prog_2_method_3_code 49 = .ok (.invokestatic 29, 3) := by decide +kernel
theorem d_Bag_copy_52 : decode prog_2_method_3_code 52 = .ok (.return_, 1) := by decide +kernel
theorem d_Union_fill_0 : decode prog_11_method_2_code 0 = .ok (.aload_n 2, 1) := by decide +kernel
theorem d_Union_fill_1 : decode prog_11_method_2_code 1 = .ok (.aload_n 0, 1) := by decide +kernel
theorem d_Union_fill_2 : decode prog_11_method_2_code 2 = .ok (.getfield 7, 3) := by decide +kernel
theorem d_Union_fill_5 : decode prog_11_method_2_code 5 = .ok (.getfield 16, 3) := by decide +kernel
theorem d_Union_fill_8 : decode prog_11_method_2_code 8 = .ok (.getfield 22, 3) := by decide +kernel
theorem d_Union_fill_11 : decode prog_11_method_2_code 11 = .ok (.invokevirtual 28, 3) := by decide +kernel
theorem d_Union_fill_14 : decode prog_11_method_2_code 14 = .ok (.aload_n 2, 1) := by decide +kernel
theorem d_Union_fill_15 : decode prog_11_method_2_code 15 = .ok (.aload_n 0, 1) := by decide +kernel
theorem d_Union_fill_16 : decode prog_11_method_2_code 16 = .ok (.getfield 7, 3) := by decide +kernel
theorem d_Union_fill_19 : decode prog_11_method_2_code 19 = .ok (.getfield 16, 3) := by decide +kernel
theorem d_Union_fill_22 : decode prog_11_method_2_code 22 = .ok (.invokevirtual 32, 3) := by decide +kernel
theorem d_Union_fill_25 : decode prog_11_method_2_code 25 = .ok (.aload_n 2, 1) := by decide +kernel
theorem d_Union_fill_26 : decode prog_11_method_2_code 26 = .ok (.aload_n 0, 1) := by decide +kernel
theorem d_Union_fill_27 : decode prog_11_method_2_code 27 = .ok (.getfield 13, 3) := by decide +kernel
theorem d_Union_fill_30 : decode prog_11_method_2_code 30 = .ok (.getfield 16, 3) := by decide +kernel
theorem d_Union_fill_33 : decode prog_11_method_2_code 33 = .ok (.invokevirtual 32, 3) := by decide +kernel
theorem d_Union_fill_36 : decode prog_11_method_2_code 36 = .ok (.return_, 1) := by decide +kernel
theorem d_Bag_addAll_0 : decode prog_2_method_9_code 0 = .ok (.iconst 0, 1) := by decide +kernel
theorem d_Bag_addAll_1 : decode prog_2_method_9_code 1 = .ok (.istore_n 2, 1) := by decide +kernel
theorem d_Bag_addAll_2 : decode prog_2_method_9_code 2 = .ok (.iload_n 2, 1) := by decide +kernel
theorem d_Bag_addAll_3 : decode prog_2_method_9_code 3 = .ok (.aload_n 1, 1) := by decide +kernel
theorem d_Bag_addAll_4 : decode prog_2_method_9_code 4 = .ok (.getfield 15, 3) := by decide +kernel
theorem d_Bag_addAll_7 : decode prog_2_method_9_code 7 = .ok (.if_icmp .ge 25, 3) := by decide +kernel
theorem d_Bag_addAll_10 : decode prog_2_method_9_code 10 = .ok (.aload_n 0, 1) := by decide +kernel
theorem d_Bag_addAll_11 : decode prog_2_method_9_code 11 = .ok (.aload_n 1, 1) := by decide +kernel
theorem d_Bag_addAll_12 : decode prog_2_method_9_code 12 = .ok (.iload_n 2, 1) := by decide +kernel
theorem d_Bag_addAll_13 : decode prog_2_method_9_code 13 = .ok (.iconst 0, 1) := by decide +kernel
theorem d_Bag_addAll_14 : decode prog_2_method_9_code 14 = .ok (.invokevirtual 59, 3) := by decide +kernel
theorem d_Bag_addAll_17 : decode prog_2_method_9_code 17 = .ok (.aload_n 0, 1) := by decide +kernel
theorem d_Bag_addAll_18 : decode prog_2_method_9_code 18 = .ok (.aload_n 1, 1) := by decide +kernel
theorem d_Bag_addAll_19 : decode prog_2_method_9_code 19 = .ok (.iload_n 2, 1) := by decide +kernel
theorem d_Bag_addAll_20 : decode prog_2_method_9_code 20 = .ok (.invokevirtual 63, 3) := by decide +kernel
theorem d_Bag_addAll_23 : decode prog_2_method_9_code 23 = .ok (.invokevirtual 67, 3) := by decide +kernel
theorem d_Bag_addAll_26 : decode prog_2_method_9_code 26 = .ok (.iinc 2 1, 3) := by decide +kernel
theorem d_Bag_addAll_29 : decode prog_2_method_9_code 29 = .ok (.goto (-27), 3) := by decide +kernel
theorem d_Bag_addAll_32 : decode prog_2_method_9_code 32 = .ok (.return_, 1) := by decide +kernel
theorem d_Batch_addTo_0 : decode prog_3_method_5_code 0 = .ok (.iconst 0, 1) := by decide +kernel
theorem d_Batch_addTo_1 : decode prog_3_method_5_code 1 = .ok (.istore_n 3, 1) := by decide +kernel
theorem d_Batch_addTo_2 : decode prog_3_method_5_code 2 = .ok (.iload_n 3, 1) := by decide +kernel
theorem d_Batch_addTo_3 : decode prog_3_method_5_code 3 = .ok (.aload_n 0, 1) := by decide +kernel
theorem d_Batch_addTo_4 : decode prog_3_method_5_code 4 = .ok (.getfield 24, 3) := by decide +kernel
theorem d_Batch_addTo_7 : decode prog_3_method_5_code 7 = .ok (.if_icmp .ge 52, 3) := by decide +kernel
theorem d_Batch_addTo_10 : decode prog_3_method_5_code 10 = .ok (.aload_n 0, 1) := by decide +kernel
theorem d_Batch_addTo_11 : decode prog_3_method_5_code 11 = .ok (.getfield 9, 3) := by decide +kernel
theorem d_Batch_addTo_14 : decode prog_3_method_5_code 14 = .ok (.iload_n 3, 1) := by decide +kernel
theorem d_Batch_addTo_15 : decode prog_3_method_5_code 15 = .ok (.iaload, 1) := by decide +kernel
theorem d_Batch_addTo_16 : decode prog_3_method_5_code 16 = .ok (.iload_n 1, 1) := by decide +kernel
theorem d_Batch_addTo_17 : decode prog_3_method_5_code 17 = .ok (.if_icmp .ne 36, 3) := by decide +kernel
theorem d_Batch_addTo_20 : decode prog_3_method_5_code 20 = .ok (.aload_n 2, 1) := by decide +kernel
theorem d_Batch_addTo_21 : decode prog_3_method_5_code 21 = .ok (.iconst 0, 1) := by decide +kernel
theorem d_Batch_addTo_22 : decode prog_3_method_5_code 22 = .ok (.aload_n 0, 1) := by decide +kernel
theorem d_Batch_addTo_23 : decode prog_3_method_5_code 23 = .ok (.getfield 15, 3) := by decide +kernel
theorem d_Batch_addTo_26 : decode prog_3_method_5_code 26 = .ok (.iload_n 3, 1) := by decide +kernel
theorem d_Batch_addTo_27 : decode prog_3_method_5_code 27 = .ok (.iaload, 1) := by decide +kernel
theorem d_Batch_addTo_28 : decode prog_3_method_5_code 28 = .ok (.invokevirtual 28, 3) := by decide +kernel
theorem d_Batch_addTo_31 : decode prog_3_method_5_code 31 = .ok (.aload_n 2, 1) := by decide +kernel
theorem d_Batch_addTo_32 : decode prog_3_method_5_code 32 = .ok (.iconst 1, 1) := by decide +kernel
theorem d_Batch_addTo_33 : decode prog_3_method_5_code 33 = .ok (.aload_n 0, 1) := by decide +kernel
theorem d_Batch_addTo_34 : decode prog_3_method_5_code 34 = .ok (.getfield 18, 3) := by decide +kernel
theorem d_Batch_addTo_37 : decode prog_3_method_5_code 37 = .ok (.iload_n 3, 1) := by decide +kernel
theorem d_Batch_addTo_38 : decode prog_3_method_5_code 38 = .ok (.iaload, 1) := by decide +kernel
theorem d_Batch_addTo_39 : decode prog_3_method_5_code 39 = .ok (.invokevirtual 28, 3) := by decide +kernel
theorem d_Batch_addTo_42 : decode prog_3_method_5_code 42 = .ok (.aload_n 2, 1) := by decide +kernel
theorem d_Batch_addTo_43 : decode prog_3_method_5_code 43 = .ok (.aload_n 0, 1) := by decide +kernel
theorem d_Batch_addTo_44 : decode prog_3_method_5_code 44 = .ok (.getfield 21, 3) := by decide +kernel
theorem d_Batch_addTo_47 : decode prog_3_method_5_code 47 = .ok (.iload_n 3, 1) := by decide +kernel
theorem d_Batch_addTo_48 : decode prog_3_method_5_code 48 = .ok (.iaload, 1) := by decide +kernel
theorem d_Batch_addTo_49 : decode prog_3_method_5_code 49 = .ok (.i2l, 1) := by decide +kernel
theorem d_Batch_addTo_50 : decode prog_3_method_5_code 50 = .ok (.invokevirtual 34, 3) := by decide +kernel
theorem d_Batch_addTo_53 : decode prog_3_method_5_code 53 = .ok (.iinc 3 1, 3) := by decide +kernel
theorem d_Batch_addTo_56 : decode prog_3_method_5_code 56 = .ok (.goto (-54), 3) := by decide +kernel
theorem d_Batch_addTo_59 : decode prog_3_method_5_code 59 = .ok (.return_, 1) := by decide +kernel
theorem d_View_keepsLimits_0 : decode prog_12_method_5_code 0 = .ok (.aload_n 0, 1) := by decide +kernel
theorem d_View_keepsLimits_1 : decode prog_12_method_5_code 1 = .ok (.getfield 23, 3) := by decide +kernel
theorem d_View_keepsLimits_4 : decode prog_12_method_5_code 4 = .ok (.aload_n 0, 1) := by decide +kernel
theorem d_View_keepsLimits_5 : decode prog_12_method_5_code 5 = .ok (.getfield 10, 3) := by decide +kernel
theorem d_View_keepsLimits_8 : decode prog_12_method_5_code 8 = .ok (.invokevirtual 36, 3) := by decide +kernel
theorem d_View_keepsLimits_11 : decode prog_12_method_5_code 11 = .ok (.ireturn, 1) := by decide +kernel
theorem d_Table_allows_0 : decode prog_10_method_3_code 0 = .ok (.aload_n 1, 1) := by decide +kernel
theorem d_Table_allows_1 : decode prog_10_method_3_code 1 = .ok (.getfield 15, 3) := by decide +kernel
theorem d_Table_allows_4 : decode prog_10_method_3_code 4 = .ok (.bipush 8, 2) := by decide +kernel
theorem d_Table_allows_6 : decode prog_10_method_3_code 6 = .ok (.if_icmp .gt 17, 3) := by decide +kernel
theorem d_Table_allows_9 : decode prog_10_method_3_code 9 = .ok (.aload_n 1, 1) := by decide +kernel
theorem d_Table_allows_10 : decode prog_10_method_3_code 10 = .ok (.iconst 1, 1) := by decide +kernel
theorem d_Table_allows_11 : decode prog_10_method_3_code 11 = .ok (.bipush 99, 2) := by decide +kernel
theorem d_Table_allows_13 : decode prog_10_method_3_code 13 = .ok (.invokevirtual 19, 3) := by decide +kernel
theorem d_Table_allows_16 : decode prog_10_method_3_code 16 = .ok (.ifCond .ne 7, 3) := by decide +kernel
theorem d_Table_allows_19 : decode prog_10_method_3_code 19 = .ok (.iconst 1, 1) := by decide +kernel
theorem d_Table_allows_20 : decode prog_10_method_3_code 20 = .ok (.goto 4, 3) := by decide +kernel
theorem d_Table_allows_23 : decode prog_10_method_3_code 23 = .ok (.iconst 0, 1) := by decide +kernel
theorem d_Table_allows_24 : decode prog_10_method_3_code 24 = .ok (.ireturn, 1) := by decide +kernel
theorem d_Bag_hasTimesOutside_0 : decode prog_2_method_11_code 0 = .ok (.iconst 0, 1) := by decide +kernel
theorem d_Bag_hasTimesOutside_1 : decode prog_2_method_11_code 1 = .ok (.istore_n 3, 1) := by decide +kernel
theorem d_Bag_hasTimesOutside_2 : decode prog_2_method_11_code 2 = .ok (.iload_n 3, 1) := by decide +kernel
theorem d_Bag_hasTimesOutside_3 : decode prog_2_method_11_code 3 = .ok (.aload_n 0, 1) := by decide +kernel
theorem d_Bag_hasTimesOutside_4 : decode prog_2_method_11_code 4 = .ok (.getfield 15, 3) := by decide +kernel
theorem d_Bag_hasTimesOutside_7 : decode prog_2_method_11_code 7 = .ok (.if_icmp .ge 35, 3) := by decide +kernel
theorem d_Bag_hasTimesOutside_10 : decode prog_2_method_11_code 10 = .ok (.aload_n 0, 1) := by decide +kernel
theorem d_Bag_hasTimesOutside_11 : decode prog_2_method_11_code 11 = .ok (.getfield 22, 3) := by decide +kernel
theorem d_Bag_hasTimesOutside_14 : decode prog_2_method_11_code 14 = .ok (.iload_n 3, 1) := by decide +kernel
theorem d_Bag_hasTimesOutside_15 : decode prog_2_method_11_code 15 = .ok (.laload, 1) := by decide +kernel
theorem d_Bag_hasTimesOutside_16 : decode prog_2_method_11_code 16 = .ok (.iload_n 1, 1) := by decide +kernel
theorem d_Bag_hasTimesOutside_17 : decode prog_2_method_11_code 17 = .ok (.i2l, 1) := by decide +kernel
theorem d_Bag_hasTimesOutside_18 : decode prog_2_method_11_code 18 = .ok (.lcmp, 1) := by decide +kernel
theorem d_Bag_hasTimesOutside_19 : decode prog_2_method_11_code 19 = .ok (.ifCond .lt 15, 3) := by decide +kernel
theorem d_Bag_hasTimesOutside_22 : decode prog_2_method_11_code 22 = .ok (.aload_n 0, 1) := by decide +kernel
theorem d_Bag_hasTimesOutside_23 : decode prog_2_method_11_code 23 = .ok (.getfield 22, 3) := by decide +kernel
theorem d_Bag_hasTimesOutside_26 : decode prog_2_method_11_code 26 = .ok (.iload_n 3, 1) := by decide +kernel
theorem d_Bag_hasTimesOutside_27 : decode prog_2_method_11_code 27 = .ok (.laload, 1) := by decide +kernel
theorem d_Bag_hasTimesOutside_28 : decode prog_2_method_11_code 28 = .ok (.iload_n 2, 1) := by decide +kernel
theorem d_Bag_hasTimesOutside_29 : decode prog_2_method_11_code 29 = .ok (.i2l, 1) := by decide +kernel
theorem d_Bag_hasTimesOutside_30 : decode prog_2_method_11_code 30 = .ok (.lcmp, 1) := by decide +kernel
theorem d_Bag_hasTimesOutside_31 : decode prog_2_method_11_code 31 = .ok (.ifCond .le 5, 3) := by decide +kernel
theorem d_Bag_hasTimesOutside_34 : decode prog_2_method_11_code 34 = .ok (.iconst 1, 1) := by decide +kernel
theorem d_Bag_hasTimesOutside_35 : decode prog_2_method_11_code 35 = .ok (.ireturn, 1) := by decide +kernel
theorem d_Bag_hasTimesOutside_36 : decode prog_2_method_11_code 36 = .ok (.iinc 3 1, 3) := by decide +kernel
theorem d_Bag_hasTimesOutside_39 : decode prog_2_method_11_code 39 = .ok (.goto (-37), 3) := by decide +kernel
theorem d_Bag_hasTimesOutside_42 : decode prog_2_method_11_code 42 = .ok (.iconst 0, 1) := by decide +kernel
theorem d_Bag_hasTimesOutside_43 : decode prog_2_method_11_code 43 = .ok (.ireturn, 1) := by decide +kernel
theorem d_Oper_allows_0 : decode prog_7_method_3_code 0 = .ok (.aload_n 1, 1) := by decide +kernel
theorem d_Oper_allows_1 : decode prog_7_method_3_code 1 = .ok (.getfield 9, 3) := by decide +kernel
theorem d_Oper_allows_4 : decode prog_7_method_3_code 4 = .ok (.bipush 16, 2) := by decide +kernel
theorem d_Oper_allows_6 : decode prog_7_method_3_code 6 = .ok (.if_icmp .gt 7, 3) := by decide +kernel
theorem d_Oper_allows_9 : decode prog_7_method_3_code 9 = .ok (.iconst 1, 1) := by decide +kernel
theorem d_Oper_allows_10 : decode prog_7_method_3_code 10 = .ok (.goto 4, 3) := by decide +kernel
theorem d_Oper_allows_13 : decode prog_7_method_3_code 13 = .ok (.iconst 0, 1) := by decide +kernel
theorem d_Oper_allows_14 : decode prog_7_method_3_code 14 = .ok (.ireturn, 1) := by decide +kernel
theorem d_DV_takeBack_0 : decode prog_1_method_25_code 0 = .ok (.iconst 0, 1) := by decide +kernel
theorem d_DV_takeBack_1 : decode prog_1_method_25_code 1 = .ok (.istore_n 2, 1) := by decide +kernel
theorem d_DV_takeBack_2 : decode prog_1_method_25_code 2 = .ok (.iload_n 2, 1) := by decide +kernel
theorem d_DV_takeBack_3 : decode prog_1_method_25_code 3 = .ok (.iload_n 1, 1) := by decide +kernel
theorem d_DV_takeBack_4 : decode prog_1_method_25_code 4 = .ok (.if_icmp .gt 18, 3) := by decide +kernel
theorem d_DV_takeBack_7 : decode prog_1_method_25_code 7 = .ok (.aload_n 0, 1) := by decide +kernel
theorem d_DV_takeBack_8 : decode prog_1_method_25_code 8 = .ok (.getfield 11, 3) := by decide +kernel
theorem d_DV_takeBack_11 : decode prog_1_method_25_code 11 = .ok (.iload_n 2, 1) := by decide +kernel
theorem d_DV_takeBack_12 : decode prog_1_method_25_code 12 = .ok (.aaload, 1) := by decide +kernel
theorem d_DV_takeBack_13 : decode prog_1_method_25_code 13 = .ok (.invokevirtual 192, 3) := by decide +kernel
theorem d_DV_takeBack_16 : decode prog_1_method_25_code 16 = .ok (.iinc 2 1, 3) := by decide +kernel
theorem d_DV_takeBack_19 : decode prog_1_method_25_code 19 = .ok (.goto (-17), 3) := by decide +kernel
theorem d_DV_takeBack_22 : decode prog_1_method_25_code 22 = .ok (.return_, 1) := by decide +kernel
theorem d_View_countMoved_0 : decode prog_12_method_6_code 0 = .ok (.aload_n 0, 1) := by decide +kernel
theorem d_View_countMoved_1 : decode prog_12_method_6_code 1 = .ok (.aload_n 0, 1) := by decide +kernel
theorem d_View_countMoved_2 : decode prog_12_method_6_code 2 = .ok (.getfield 10, 3) := by decide +kernel
theorem d_View_countMoved_5 : decode prog_12_method_6_code 5 = .ok (.aload_n 0, 1) := by decide +kernel
theorem d_View_countMoved_6 : decode prog_12_method_6_code 6 = .ok (.getfield 16, 3) := by decide +kernel
theorem d_View_countMoved_9 : decode prog_12_method_6_code 9 = .ok (.invokevirtual 40, 3) := by decide +kernel
theorem d_View_countMoved_12 : decode prog_12_method_6_code 12 = .ok (.putfield 19, 3) := by decide +kernel
theorem d_View_countMoved_15 : decode prog_12_method_6_code 15 = .ok (.return_, 1) := by decide +kernel
theorem d_Bag_differencesFrom_0 : decode prog_2_method_12_code 0 = .ok (.iconst 0, 1) := by decide +kernel
theorem d_Bag_differencesFrom_1 : decode prog_2_method_12_code 1 = .ok (.istore_n 2, 1) := by decide +kernel
theorem d_Bag_differencesFrom_2 : decode prog_2_method_12_code 2 = .ok (.iconst 0, 1) := by decide +kernel
theorem d_Bag_differencesFrom_3 : decode prog_2_method_12_code 3 = .ok (.istore_n 3, 1) := by decide +kernel
theorem d_Bag_differencesFrom_4 : decode prog_2_method_12_code 4 = .ok (.iconst 0, 1) := by decide +kernel
theorem d_Bag_differencesFrom_5 : decode prog_2_method_12_code 5 = .ok (.istore 4, 2) := by decide +kernel
theorem d_Bag_differencesFrom_7 : decode prog_2_method_12_code 7 = .ok (.iload_n 3, 1) := by decide +kernel
theorem d_Bag_differencesFrom_8 : decode prog_2_method_12_code 8 = .ok (.aload_n 0, 1) := by decide +kernel
theorem d_Bag_differencesFrom_9 : decode prog_2_method_12_code 9 = .ok (.getfield 15, 3) := by decide +kernel
theorem d_Bag_differencesFrom_12 : decode prog_2_method_12_code 12 = .ok (.if_icmp .lt 12, 3) := by decide +kernel
theorem d_Bag_differencesFrom_15 : decode prog_2_method_12_code 15 = .ok (.iload 4, 2) := by decide +kernel
theorem d_Bag_differencesFrom_17 : decode prog_2_method_12_code 17 = .ok (.aload_n 1, 1) := by decide +kernel
theorem d_Bag_differencesFrom_18 : decode prog_2_method_12_code 18 = .ok (.getfield 15, 3) := by decide +kernel
theorem d_Bag_differencesFrom_21 : decode prog_2_method_12_code 21 = .ok (.if_icmp .ge 57, 3) := by decide +kernel
theorem d_Bag_differencesFrom_24 : decode prog_2_method_12_code 24 = .ok (.aload_n 0, 1) := by decide +kernel
theorem d_Bag_differencesFrom_25 : decode prog_2_method_12_code 25 = .ok (.iload_n 3, 1) := by decide +kernel
theorem d_Bag_differencesFrom_26 : decode prog_2_method_12_code 26 = .ok (.aload_n 1, 1) := by decide +kernel
theorem d_Bag_differencesFrom_27 : decode prog_2_method_12_code 27 = .ok (.iload 4, 2) := by decide +kernel
theorem d_Bag_differencesFrom_29 : decode prog_2_method_12_code 29 = .ok (.invokevirtual 71, 3) := by decide +kernel
theorem d_Bag_differencesFrom_32 : decode prog_2_method_12_code 32 = .ok (.istore 5, 2) := by decide +kernel
theorem d_Bag_differencesFrom_34 : decode prog_2_method_12_code 34 = .ok (.iload 5, 2) := by decide +kernel
theorem d_Bag_differencesFrom_36 : decode prog_2_method_12_code 36 = .ok (.ifCond .ne 20, 3) := by decide +kernel
theorem d_Bag_differencesFrom_39 : decode prog_2_method_12_code 39 = .ok (.aload_n 0, 1) := by decide +kernel
theorem d_Bag_differencesFrom_40 : decode prog_2_method_12_code 40 = .ok (.getfield 22, 3) := by decide +kernel
theorem d_Bag_differencesFrom_43 : decode prog_2_method_12_code 43 = .ok (.iload_n 3, 1) := by decide +kernel
theorem d_Bag_differencesFrom_44 : decode prog_2_method_12_code 44 = .ok (.laload, 1) := by decide +kernel
theorem d_Bag_differencesFrom_45 : decode prog_2_method_12_code 45 = .ok (.aload_n 1, 1) := by decide +kernel
theorem d_Bag_differencesFrom_46 : decode prog_2_method_12_code 46 = .ok (.getfield 22, 3) := by decide +kernel
theorem d_Bag_differencesFrom_49 : decode prog_2_method_12_code 49 = .ok (.iload 4, 2) := by decide +kernel
theorem d_Bag_differencesFrom_51 : decode prog_2_method_12_code 51 = .ok (.laload, 1) := by decide +kernel
theorem d_Bag_differencesFrom_52 : decode prog_2_method_12_code 52 = .ok (.lcmp, 1) := by decide +kernel
theorem d_Bag_differencesFrom_53 : decode prog_2_method_12_code 53 = .ok (.ifCond .eq 6, 3) := by decide +kernel
theorem d_Bag_differencesFrom_56 : decode prog_2_method_12_code 56 = .ok (.iinc 2 1, 3) := by decide +kernel
theorem d_Bag_differencesFrom_59 : decode prog_2_method_12_code 59 = .ok (.iload 5, 2) := by decide +kernel
theorem d_Bag_differencesFrom_61 : decode prog_2_method_12_code 61 = .ok (.ifCond .gt 6, 3) := by decide +kernel
theorem d_Bag_differencesFrom_64 : decode prog_2_method_12_code 64 = .ok (.iinc 3 1, 3) := by decide +kernel
theorem d_Bag_differencesFrom_67 : decode prog_2_method_12_code 67 = .ok (.iload 5, 2) := by decide +kernel
theorem d_Bag_differencesFrom_69 : decode prog_2_method_12_code 69 = .ok (.ifCond .lt 6, 3) := by decide +kernel
theorem d_Bag_differencesFrom_72 : decode prog_2_method_12_code 72 = .ok (.iinc 4 1, 3) := by decide +kernel
theorem d_Bag_differencesFrom_75 : decode prog_2_method_12_code 75 = .ok (.goto (-68), 3) := by decide +kernel
theorem d_Bag_differencesFrom_78 : decode prog_2_method_12_code 78 = .ok (.iload_n 2, 1) := by decide +kernel
theorem d_Bag_differencesFrom_79 : decode prog_2_method_12_code 79 = .ok (.ireturn, 1) := by decide +kernel
theorem d_Bag_orderOfRows_0 : decode prog_2_method_13_code 0 = .ok (.iload_n 1, 1) := by decide +kernel
theorem d_Bag_orderOfRows_1 : decode prog_2_method_13_code 1 = .ok (.aload_n 0, 1) := by decide +kernel
theorem d_Bag_orderOfRows_2 : decode prog_2_method_13_code 2 = .ok (.getfield 15, 3) := by decide +kernel
theorem d_Bag_orderOfRows_5 : decode prog_2_method_13_code 5 = .ok (.if_icmp .ge 11, 3) := by decide +kernel
theorem d_Bag_orderOfRows_8 : decode prog_2_method_13_code 8 = .ok (.iload_n 3, 1) := by decide +kernel
theorem d_Bag_orderOfRows_9 : decode prog_2_method_13_code 9 = .ok (.aload_n 2, 1) := by decide +kernel
theorem d_Bag_orderOfRows_10 : decode prog_2_method_13_code 10 = .ok (.getfield 15, 3) := by decide +kernel
theorem d_Bag_orderOfRows_13 : decode prog_2_method_13_code 13 = .ok (.if_icmp .lt 17, 3) := by decide +kernel
theorem d_Bag_orderOfRows_16 : decode prog_2_method_13_code 16 = .ok (.iload_n 1, 1) := by decide +kernel
theorem d_Bag_orderOfRows_17 : decode prog_2_method_13_code 17 = .ok (.aload_n 0, 1) := by decide +kernel
theorem d_Bag_orderOfRows_18 : decode prog_2_method_13_code 18 = .ok (.getfield 15, 3) := by decide +kernel
theorem d_Bag_orderOfRows_21 : decode prog_2_method_13_code 21 = .ok (.if_icmp .ge 7, 3) := by decide +kernel
theorem d_Bag_orderOfRows_24 : decode prog_2_method_13_code 24 = .ok (.iconst (-1), 1) := by decide +kernel
theorem d_Bag_orderOfRows_25 : decode prog_2_method_13_code 25 = .ok (.goto 4, 3) := by decide +kernel
theorem d_Bag_orderOfRows_28 : decode prog_2_method_13_code 28 = .ok (.iconst 1, 1) := by decide +kernel
theorem d_Bag_orderOfRows_29 : decode prog_2_method_13_code 29 = .ok (.ireturn, 1) := by decide +kernel
theorem d_Bag_orderOfRows_30 : decode prog_2_method_13_code 30 = .ok (.aload_n 0, 1) := by decide +kernel
theorem d_Bag_orderOfRows_31 : decode prog_2_method_13_code 31 = .ok (.iload_n 1, 1) := by decide +kernel
theorem d_Bag_orderOfRows_32 : decode prog_2_method_13_code 32 = .ok (.aload_n 2, 1) := by decide +kernel
theorem d_Bag_orderOfRows_33 : decode prog_2_method_13_code 33 = .ok (.getfield 18, 3) := by decide +kernel
theorem d_Bag_orderOfRows_36 : decode prog_2_method_13_code 36 = .ok (.iload_n 3, 1) := by decide +kernel
theorem d_Bag_orderOfRows_37 : decode prog_2_method_13_code 37 = .ok (.iconst 4, 1) := by decide +kernel
theorem d_Bag_orderOfRows_38 : decode prog_2_method_13_code 38 = .ok (.imul, 1) := by decide +kernel
theorem d_Bag_orderOfRows_39 : decode prog_2_method_13_code 39 = .ok (.invokevirtual 75, 3) := by decide +kernel
theorem d_Bag_orderOfRows_42 : decode prog_2_method_13_code 42 = .ok (.ireturn, 1) := by decide +kernel
theorem d_DV_select_0 : decode prog_1_method_5_code 0 = .ok (.aload_n 0, 1) := by decide +kernel
theorem d_DV_select_1 : decode prog_1_method_5_code 1 = .ok (.iload_n 1, 1) := by decide +kernel
theorem d_DV_select_2 : decode prog_1_method_5_code 2 = .ok (.invokevirtual 76, 3) := by decide +kernel
theorem d_DV_select_5 : decode prog_1_method_5_code 5 = .ok (.astore 5, 2) := by decide +kernel
theorem d_DV_select_7 : decode prog_1_method_5_code 7 = .ok (.aload 5, 2) := by decide +kernel
theorem d_DV_select_9 : decode prog_1_method_5_code 9 = .ok (.iload_n 2, 1) := by decide +kernel
theorem d_DV_select_10 : decode prog_1_method_5_code 10 = .ok (.invokestatic 80, 3) := by decide +kernel
theorem d_DV_select_13 : decode prog_1_method_5_code 13 = .ok (.iload_n 3, 1) := by decide +kernel
theorem d_DV_select_14 : decode prog_1_method_5_code 14 = .ok (.ifCond .lt 8, 3) := by decide +kernel
theorem d_DV_select_17 : decode prog_1_method_5_code 17 = .ok (.iload_n 3, 1) := by decide +kernel
theorem d_DV_select_18 : decode prog_1_method_5_code 18 = .ok (.iconst 2, 1) := by decide +kernel
theorem d_DV_select_19 : decode prog_1_method_5_code 19 = .ok (.if_icmp .le 13, 3) := by decide +kernel
theorem d_DV_select_22 : decode prog_1_method_5_code 22 = .ok (.new 43, 3) := by decide +kernel
theorem d_DV_select_25 : decode prog_1_method_5_code 25 = .ok (.dup, 1) := by decide +kernel
theorem d_DV_select_26 : decode prog_1_method_5_code 26 = .ok (.ldc 84, 2) := by decide +kernel
theorem d_DV_select_28 : decode prog_1_method_5_code 28 = .ok (.invokespecial 47, 3) := by decide +kernel
theorem d_DV_select_31 : decode prog_1_method_5_code 31 = .ok (.athrow, 1) := by decide +kernel
theorem d_DV_select_32 : decode prog_1_method_5_code 32 = .ok (.aload_n 0, 1) := by decide +kernel
theorem d_DV_select_33 : decode prog_1_method_5_code 33 = .ok (.new 86, 3) := by decide +kernel
theorem d_DV_select_36 : decode prog_1_method_5_code 36 = .ok (.dup, 1) := by decide +kernel
theorem d_DV_select_37 : decode prog_1_method_5_code 37 = .ok (.aload 5, 2) := by decide +kernel
theorem d_DV_select_39 : decode prog_1_method_5_code 39 = .ok (.iload_n 2, 1) := by decide +kernel
theorem d_DV_select_40 : decode prog_1_method_5_code 40 = .ok (.iload_n 3, 1) := by decide +kernel
theorem d_DV_select_41 : decode prog_1_method_5_code 41 = .ok (.iload 4, 2) := by decide +kernel
theorem d_DV_select_43 : decode prog_1_method_5_code 43 = .ok (.invokespecial 88, 3) := by decide +kernel
theorem d_DV_select_46 : decode prog_1_method_5_code 46 = .ok (.invokevirtual 91, 3) := by decide +kernel
theorem d_DV_select_49 : decode prog_1_method_5_code 49 = .ok (.ireturn, 1) := by decide +kernel
theorem d_DV_viewAt_0 : decode prog_1_method_20_code 0 = .ok (.iload_n 1, 1) := by decide +kernel
theorem d_DV_viewAt_1 : decode prog_1_method_20_code 1 = .ok (.ifCond .lt 11, 3) := by decide +kernel
theorem d_DV_viewAt_4 : decode prog_1_method_20_code 4 = .ok (.iload_n 1, 1) := by decide +kernel
theorem d_DV_viewAt_5 : decode prog_1_method_20_code 5 = .ok (.aload_n 0, 1) := by decide +kernel
theorem d_DV_viewAt_6 : decode prog_1_method_20_code 6 = .ok (.getfield 15, 3) := by decide +kernel
theorem d_DV_viewAt_9 : decode prog_1_method_20_code 9 = .ok (.if_icmp .lt 13, 3) := by decide +kernel
theorem d_DV_viewAt_12 : decode prog_1_method_20_code 12 = .ok (.new 32, 3) := by decide +kernel
theorem d_DV_viewAt_15 : decode prog_1_method_20_code 15 = .ok (.dup, 1) := by decide +kernel
theorem d_DV_viewAt_16 : decode prog_1_method_20_code 16 = .ok (.ldc 162, 2) := by decide +kernel
theorem d_DV_viewAt_18 : decode prog_1_method_20_code 18 = .ok (.invokespecial 36, 3) := by decide +kernel
theorem d_DV_viewAt_21 : decode prog_1_method_20_code 21 = .ok (.athrow, 1) := by decide +kernel
theorem d_DV_viewAt_22 : decode prog_1_method_20_code 22 = .ok (.aload_n 0, 1) := by decide +kernel
theorem d_DV_viewAt_23 : decode prog_1_method_20_code 23 = .ok (.getfield 11, 3) := by decide +kernel
theorem d_DV_viewAt_26 : decode prog_1_method_20_code 26 = .ok (.iload_n 1, 1) := by decide +kernel
theorem d_DV_viewAt_27 : decode prog_1_method_20_code 27 = .ok (.aaload, 1) := by decide +kernel
theorem d_DV_viewAt_28 : decode prog_1_method_20_code 28 = .ok (.areturn, 1) := by decide +kernel
theorem d_DV_needColumn_0 : decode prog_1_method_21_code 0 = .ok (.iload_n 1, 1) := by decide +kernel
theorem d_DV_needColumn_1 : decode prog_1_method_21_code 1 = .ok (.ifCond .lt 14, 3) := by decide +kernel
theorem d_DV_needColumn_4 : decode prog_1_method_21_code 4 = .ok (.iload_n 1, 1) := by decide +kernel
theorem d_DV_needColumn_5 : decode prog_1_method_21_code 5 = .ok (.aload_n 0, 1) := by decide +kernel
theorem d_DV_needColumn_6 : decode prog_1_method_21_code 6 = .ok (.getfield 106, 3) := by decide +kernel
theorem d_DV_needColumn_9 : decode prog_1_method_21_code 9 = .ok (.getfield 110, 3) := by decide +kernel
theorem d_DV_needColumn_12 : decode prog_1_method_21_code 12 = .ok (.if_icmp .lt 13, 3) := by decide +kernel
theorem d_DV_needColumn_15 : decode prog_1_method_21_code 15 = .ok (.new 32, 3) := by decide +kernel
theorem d_DV_needColumn_18 : decode prog_1_method_21_code 18 = .ok (.dup, 1) := by decide +kernel
theorem d_DV_needColumn_19 : decode prog_1_method_21_code 19 = .ok (.ldc 164, 2) := by decide +kernel
theorem d_DV_needColumn_21 : decode prog_1_method_21_code 21 = .ok (.invokespecial 36, 3) := by decide +kernel
theorem d_DV_needColumn_24 : decode prog_1_method_21_code 24 = .ok (.athrow, 1) := by decide +kernel
theorem d_DV_needColumn_25 : decode prog_1_method_21_code 25 = .ok (.return_, 1) := by decide +kernel
theorem d_Select_init_0 : decode prog_9_method_1_code 0 = .ok (.aload_n 0, 1) := by decide +kernel
theorem d_Select_init_1 : decode prog_9_method_1_code 1 = .ok (.invokespecial 3, 3) := by decide +kernel
theorem d_Select_init_4 : decode prog_9_method_1_code 4 = .ok (.aload_n 0, 1) := by decide +kernel
theorem d_Select_init_5 : decode prog_9_method_1_code 5 = .ok (.aload_n 1, 1) := by decide +kernel
theorem d_Select_init_6 : decode prog_9_method_1_code 6 = .ok (.putfield 9, 3) := by decide +kernel
theorem d_Select_init_9 : decode prog_9_method_1_code 9 = .ok (.aload_n 0, 1) := by decide +kernel
theorem d_Select_init_10 : decode prog_9_method_1_code 10 = .ok (.iload_n 2, 1) := by decide +kernel
theorem d_Select_init_11 : decode prog_9_method_1_code 11 = .ok (.putfield 15, 3) := by decide +kernel
theorem d_Select_init_14 : decode prog_9_method_1_code 14 = .ok (.aload_n 0, 1) := by decide +kernel
theorem d_Select_init_15 : decode prog_9_method_1_code 15 = .ok (.iload_n 3, 1) := by decide +kernel
theorem d_Select_init_16 : decode prog_9_method_1_code 16 = .ok (.putfield 19, 3) := by decide +kernel
theorem d_Select_init_19 : decode prog_9_method_1_code 19 = .ok (.aload_n 0, 1) := by decide +kernel
theorem d_Select_init_20 : decode prog_9_method_1_code 20 = .ok (.iload 4, 2) := by decide +kernel
theorem d_Select_init_22 : decode prog_9_method_1_code 22 = .ok (.putfield 22, 3) := by decide +kernel
theorem d_Select_init_25 : decode prog_9_method_1_code 25 = .ok (.return_, 1) := by decide +kernel
theorem d_DV_makeView_0 : decode prog_1_method_23_code 0 = .ok (.aload_n 0, 1) := by decide +kernel
theorem d_DV_makeView_1 : decode prog_1_method_23_code 1 = .ok (.getfield 15, 3) := by decide +kernel
theorem d_DV_makeView_4 : decode prog_1_method_23_code 4 = .ok (.bipush 12, 2) := by decide +kernel
theorem d_DV_makeView_6 : decode prog_1_method_23_code 6 = .ok (.if_icmp .ne 13, 3) := by decide +kernel
theorem d_DV_makeView_9 : decode prog_1_method_23_code 9 = .ok (.new 52, 3) := by decide +kernel
theorem d_DV_makeView_12 : decode prog_1_method_23_code 12 = .ok (.dup, 1) := by decide +kernel
theorem d_DV_makeView_13 : decode prog_1_method_23_code 13 = .ok (.ldc 171, 2) := by decide +kernel
theorem d_DV_makeView_15 : decode prog_1_method_23_code 15 = .ok (.invokespecial 56, 3) := by decide +kernel
theorem d_DV_makeView_18 : decode prog_1_method_23_code 18 = .ok (.athrow, 1) := by decide +kernel
theorem d_DV_makeView_19 : decode prog_1_method_23_code 19 = .ok (.aload_n 0, 1) := by decide +kernel
theorem d_DV_makeView_20 : decode prog_1_method_23_code 20 = .ok (.getfield 11, 3) := by decide +kernel
theorem d_DV_makeView_23 : decode prog_1_method_23_code 23 = .ok (.aload_n 0, 1) := by decide +kernel
theorem d_DV_makeView_24 : decode prog_1_method_23_code 24 = .ok (.getfield 15, 3) := by decide +kernel
theorem d_DV_makeView_27 : decode prog_1_method_23_code 27 = .ok (.aaload, 1) := by decide +kernel
theorem d_DV_makeView_28 : decode prog_1_method_23_code 28 = .ok (.astore_n 2, 1) := by decide +kernel
theorem d_DV_makeView_29 : decode prog_1_method_23_code 29 = .ok (.aload_n 2, 1) := by decide +kernel
theorem d_DV_makeView_30 : decode prog_1_method_23_code 30 = .ok (.aload_n 1, 1) := by decide +kernel
theorem d_DV_makeView_31 : decode prog_1_method_23_code 31 = .ok (.invokevirtual 173, 3) := by decide +kernel
theorem d_DV_makeView_34 : decode prog_1_method_23_code 34 = .ok (.aload_n 2, 1) := by decide +kernel
theorem d_DV_makeView_35 : decode prog_1_method_23_code 35 = .ok (.invokevirtual 176, 3) := by decide +kernel
theorem d_DV_makeView_38 : decode prog_1_method_23_code 38 = .ok (.ifCond .ne 13, 3) := by decide +kernel
theorem d_DV_makeView_41 : decode prog_1_method_23_code 41 = .ok (.new 52, 3) := by decide +kernel
theorem d_DV_makeView_44 : decode prog_1_method_23_code 44 = .ok (.dup, 1) := by decide +kernel
theorem d_DV_makeView_45 : decode prog_1_method_23_code 45 = .ok (.ldc 179, 2) := by decide +kernel
theorem d_DV_makeView_47 : decode prog_1_method_23_code 47 = .ok (.invokespecial 56, 3) := by decide +kernel
theorem d_DV_makeView_50 : decode prog_1_method_23_code 50 = .ok (.athrow, 1) := by decide +kernel
theorem d_DV_makeView_51 : decode prog_1_method_23_code 51 = .ok (.aload_n 0, 1) := by decide +kernel
theorem d_DV_makeView_52 : decode prog_1_method_23_code 52 = .ok (.dup, 1) := by decide +kernel
theorem d_DV_makeView_53 : decode prog_1_method_23_code 53 = .ok (.getfield 15, 3) := by decide +kernel
theorem d_DV_makeView_56 : decode prog_1_method_23_code 56 = .ok (.iconst 1, 1) := by decide +kernel
theorem d_DV_makeView_57 : decode prog_1_method_23_code 57 = .ok (.iadd, 1) := by decide +kernel
theorem d_DV_makeView_58 : decode prog_1_method_23_code 58 = .ok (.putfield 15, 3) := by decide +kernel
theorem d_DV_makeView_61 : decode prog_1_method_23_code 61 = .ok (.aload_n 0, 1) := by decide +kernel
theorem d_DV_makeView_62 : decode prog_1_method_23_code 62 = .ok (.getfield 15, 3) := by decide +kernel
theorem d_DV_makeView_65 : decode prog_1_method_23_code 65 = .ok (.iconst 1, 1) := by decide +kernel
theorem d_DV_makeView_66 : decode prog_1_method_23_code 66 = .ok (.isub, 1) := by decide +kernel
theorem d_DV_makeView_67 : decode prog_1_method_23_code 67 = .ok (.ireturn, 1) := by decide +kernel
theorem d_View_begin_0 : decode prog_12_method_2_code 0 = .ok (.aload_n 0, 1) := by decide +kernel
theorem d_View_begin_1 : decode prog_12_method_2_code 1 = .ok (.aload_n 1, 1) := by decide +kernel
theorem d_View_begin_2 : decode prog_12_method_2_code 2 = .ok (.putfield 23, 3) := by decide +kernel
theorem d_View_begin_5 : decode prog_12_method_2_code 5 = .ok (.aload_n 0, 1) := by decide +kernel
theorem d_View_begin_6 : decode prog_12_method_2_code 6 = .ok (.iconst 0, 1) := by decide +kernel
theorem d_View_begin_7 : decode prog_12_method_2_code 7 = .ok (.putfield 19, 3) := by decide +kernel
theorem d_View_begin_10 : decode prog_12_method_2_code 10 = .ok (.aload_n 0, 1) := by decide +kernel
theorem d_View_begin_11 : decode prog_12_method_2_code 11 = .ok (.getfield 23, 3) := by decide +kernel
theorem d_View_begin_14 : decode prog_12_method_2_code 14 = .ok (.aload_n 0, 1) := by decide +kernel
theorem d_View_begin_15 : decode prog_12_method_2_code 15 = .ok (.getfield 16, 3) := by decide +kernel
theorem d_View_begin_18 : decode prog_12_method_2_code 18 = .ok (.aload_n 0, 1) := by decide +kernel
theorem d_View_begin_19 : decode prog_12_method_2_code 19 = .ok (.getfield 10, 3) := by decide +kernel
theorem d_View_begin_22 : decode prog_12_method_2_code 22 = .ok (.invokevirtual 27, 3) := by decide +kernel
theorem d_View_begin_25 : decode prog_12_method_2_code 25 = .ok (.return_, 1) := by decide +kernel
theorem d_DV_project_0 : decode prog_1_method_6_code 0 = .ok (.aload_n 0, 1) := by decide +kernel
theorem d_DV_project_1 : decode prog_1_method_6_code 1 = .ok (.iload_n 1, 1) := by decide +kernel
theorem d_DV_project_2 : decode prog_1_method_6_code 2 = .ok (.invokevirtual 76, 3) := by decide +kernel
theorem d_DV_project_5 : decode prog_1_method_6_code 5 = .ok (.astore 4, 2) := by decide +kernel
theorem d_DV_project_7 : decode prog_1_method_6_code 7 = .ok (.iload_n 2, 1) := by decide +kernel
theorem d_DV_project_8 : decode prog_1_method_6_code 8 = .ok (.iconst 1, 1) := by decide +kernel
theorem d_DV_project_9 : decode prog_1_method_6_code 9 = .ok (.if_icmp .lt 8, 3) := by decide +kernel
theorem d_DV_project_12 : decode prog_1_method_6_code 12 = .ok (.iload_n 2, 1) := by decide +kernel
theorem d_DV_project_13 : decode prog_1_method_6_code 13 = .ok (.iconst 4, 1) := by decide +kernel
theorem d_DV_project_14 : decode prog_1_method_6_code 14 = .ok (.if_icmp .le 13, 3) := by decide +kernel
theorem d_DV_project_17 : decode prog_1_method_6_code 17 = .ok (.new 43, 3) := by decide +kernel
theorem d_DV_project_20 : decode prog_1_method_6_code 20 = .ok (.dup, 1) := by decide +kernel
theorem d_DV_project_21 : decode prog_1_method_6_code 21 = .ok (.ldc 95, 2) := by decide +kernel
theorem d_DV_project_23 : decode prog_1_method_6_code 23 = .ok (.invokespecial 47, 3) := by decide +kernel
theorem d_DV_project_26 : decode prog_1_method_6_code 26 = .ok (.athrow, 1) := by decide +kernel
theorem d_DV_project_27 : decode prog_1_method_6_code 27 = .ok (.iconst 0, 1) := by decide +kernel
theorem d_DV_project_28 : decode prog_1_method_6_code 28 = .ok (.istore 5, 2) := by decide +kernel
theorem d_DV_project_30 : decode prog_1_method_6_code 30 = .ok (.iload 5, 2) := by decide +kernel
theorem d_DV_project_32 : decode prog_1_method_6_code 32 = .ok (.iload_n 2, 1) := by decide +kernel
theorem d_DV_project_33 : decode prog_1_method_6_code 33 = .ok (.if_icmp .ge 20, 3) := by decide +kernel
theorem d_DV_project_36 : decode prog_1_method_6_code 36 = .ok (.aload 4, 2) := by decide +kernel
theorem d_DV_project_38 : decode prog_1_method_6_code 38 = .ok (.iload_n 3, 1) := by decide +kernel
theorem d_DV_project_39 : decode prog_1_method_6_code 39 = .ok (.iload 5, 2) := by decide +kernel
theorem d_DV_project_41 : decode prog_1_method_6_code 41 = .ok (.invokestatic 97, 3) := by decide +kernel
theorem d_DV_project_44 : decode prog_1_method_6_code 44 = .ok (.invokestatic 80, 3) := by decide +kernel
theorem d_DV_project_47 : decode prog_1_method_6_code 47 = .ok (.iinc 5 1, 3) := by decide +kernel
theorem d_DV_project_50 : decode prog_1_method_6_code 50 = .ok (.goto (-20), 3) := by decide +kernel
theorem d_DV_project_53 : decode prog_1_method_6_code 53 = .ok (.aload_n 0, 1) := by decide +kernel
theorem d_DV_project_54 : decode prog_1_method_6_code 54 = .ok (.new 101, 3) := by decide +kernel
theorem d_DV_project_57 : decode prog_1_method_6_code 57 = .ok (.dup, 1) := by decide +kernel
theorem d_DV_project_58 : decode prog_1_method_6_code 58 = .ok (.aload 4, 2) := by decide +kernel
theorem d_DV_project_60 : decode prog_1_method_6_code 60 = .ok (.iload_n 2, 1) := by decide +kernel
theorem d_DV_project_61 : decode prog_1_method_6_code 61 = .ok (.iload_n 3, 1) := by decide +kernel
theorem d_DV_project_62 : decode prog_1_method_6_code 62 = .ok (.invokespecial 103, 3) := by decide +kernel
theorem d_DV_project_65 : decode prog_1_method_6_code 65 = .ok (.invokevirtual 91, 3) := by decide +kernel
theorem d_DV_project_68 : decode prog_1_method_6_code 68 = .ok (.ireturn, 1) := by decide +kernel
theorem d_Project_init_0 : decode prog_8_method_1_code 0 = .ok (.aload_n 0, 1) := by decide +kernel
theorem d_Project_init_1 : decode prog_8_method_1_code 1 = .ok (.invokespecial 1, 3) := by decide +kernel
theorem d_Project_init_4 : decode prog_8_method_1_code 4 = .ok (.aload_n 0, 1) := by decide +kernel
theorem d_Project_init_5 : decode prog_8_method_1_code 5 = .ok (.aload_n 1, 1) := by decide +kernel
theorem d_Project_init_6 : decode prog_8_method_1_code 6 = .ok (.putfield 7, 3) := by decide +kernel
theorem d_Project_init_9 : decode prog_8_method_1_code 9 = .ok (.aload_n 0, 1) := by decide +kernel
theorem d_Project_init_10 : decode prog_8_method_1_code 10 = .ok (.iload_n 2, 1) := by decide +kernel
theorem d_Project_init_11 : decode prog_8_method_1_code 11 = .ok (.putfield 13, 3) := by decide +kernel
theorem d_Project_init_14 : decode prog_8_method_1_code 14 = .ok (.aload_n 0, 1) := by decide +kernel
theorem d_Project_init_15 : decode prog_8_method_1_code 15 = .ok (.iload_n 3, 1) := by decide +kernel
theorem d_Project_init_16 : decode prog_8_method_1_code 16 = .ok (.putfield 17, 3) := by decide +kernel
theorem d_Project_init_19 : decode prog_8_method_1_code 19 = .ok (.return_, 1) := by decide +kernel
theorem d_DV_join_0 : decode prog_1_method_7_code 0 = .ok (.aload_n 0, 1) := by decide +kernel
theorem d_DV_join_1 : decode prog_1_method_7_code 1 = .ok (.iload_n 1, 1) := by decide +kernel
theorem d_DV_join_2 : decode prog_1_method_7_code 2 = .ok (.invokevirtual 76, 3) := by decide +kernel
theorem d_DV_join_5 : decode prog_1_method_7_code 5 = .ok (.astore 5, 2) := by decide +kernel
theorem d_DV_join_7 : decode prog_1_method_7_code 7 = .ok (.aload_n 0, 1) := by decide +kernel
theorem d_DV_join_8 : decode prog_1_method_7_code 8 = .ok (.iload_n 2, 1) := by decide +kernel
theorem d_DV_join_9 : decode prog_1_method_7_code 9 = .ok (.invokevirtual 76, 3) := by decide +kernel
theorem d_DV_join_12 : decode prog_1_method_7_code 12 = .ok (.astore 6, 2) := by decide +kernel
theorem d_DV_join_14 : decode prog_1_method_7_code 14 = .ok (.aload 5, 2) := by decide +kernel
theorem d_DV_join_16 : decode prog_1_method_7_code 16 = .ok (.iload_n 3, 1) := by decide +kernel
theorem d_DV_join_17 : decode prog_1_method_7_code 17 = .ok (.invokestatic 80, 3) := by decide +kernel
theorem d_DV_join_20 : decode prog_1_method_7_code 20 = .ok (.aload 6, 2) := by decide +kernel
theorem d_DV_join_22 : decode prog_1_method_7_code 22 = .ok (.iload 4, 2) := by decide +kernel
theorem d_DV_join_24 : decode prog_1_method_7_code 24 = .ok (.invokestatic 80, 3) := by decide +kernel
theorem d_DV_join_27 : decode prog_1_method_7_code 27 = .ok (.aload 5, 2) := by decide +kernel
theorem d_DV_join_29 : decode prog_1_method_7_code 29 = .ok (.getfield 106, 3) := by decide +kernel
theorem d_DV_join_32 : decode prog_1_method_7_code 32 = .ok (.getfield 110, 3) := by decide +kernel
theorem d_DV_join_35 : decode prog_1_method_7_code 35 = .ok (.aload 6, 2) := by decide +kernel
theorem d_DV_join_37 : decode prog_1_method_7_code 37 = .ok (.getfield 106, 3) := by decide +kernel
theorem d_DV_join_40 : decode prog_1_method_7_code 40 = .ok (.getfield 110, 3) := by decide +kernel
theorem d_DV_join_43 : decode prog_1_method_7_code 43 = .ok (.iadd, 1) := by decide +kernel
theorem d_DV_join_44 : decode prog_1_method_7_code 44 = .ok (.iconst 4, 1) := by decide +kernel
theorem d_DV_join_45 : decode prog_1_method_7_code 45 = .ok (.if_icmp .le 13, 3) := by decide +kernel
theorem d_DV_join_48 : decode prog_1_method_7_code 48 = .ok (.new 43, 3) := by decide +kernel
theorem d_DV_join_51 : decode prog_1_method_7_code 51 = .ok (.dup, 1) := by decide +kernel
theorem d_DV_join_52 : decode prog_1_method_7_code 52 = .ok (.ldc 115, 2) := by decide +kernel
theorem d_DV_join_54 : decode prog_1_method_7_code 54 = .ok (.invokespecial 47, 3) := by decide +kernel
theorem d_DV_join_57 : decode prog_1_method_7_code 57 = .ok (.athrow, 1) := by decide +kernel
theorem d_DV_join_58 : decode prog_1_method_7_code 58 = .ok (.aload_n 0, 1) := by decide +kernel
theorem d_DV_join_59 : decode prog_1_method_7_code 59 = .ok (.new 117, 3) := by decide +kernel
theorem d_DV_join_62 : decode prog_1_method_7_code 62 = .ok (.dup, 1) := by decide +kernel
theorem d_DV_join_63 : decode prog_1_method_7_code 63 = .ok (.aload 5, 2) := by decide +kernel
theorem d_DV_join_65 : decode prog_1_method_7_code 65 = .ok (.aload 6, 2) := by decide +kernel
theorem d_DV_join_67 : decode prog_1_method_7_code 67 = .ok (.iload_n 3, 1) := by decide +kernel
theorem d_DV_join_68 : decode prog_1_method_7_code 68 = .ok (.iload 4, 2) := by decide +kernel
theorem d_DV_join_70 : decode prog_1_method_7_code 70 = .ok (.invokespecial 119, 3) := by decide +kernel
theorem d_DV_join_73 : decode prog_1_method_7_code 73 = .ok (.invokevirtual 91, 3) := by decide +kernel
theorem d_DV_join_76 : decode prog_1_method_7_code 76 = .ok (.ireturn, 1) := by decide +kernel
theorem d_Join_init_0 : decode prog_6_method_1_code 0 = .ok (.aload_n 0, 1) := by decide +kernel
theorem d_Join_init_1 : decode prog_6_method_1_code 1 = .ok (.invokespecial 1, 3) := by decide +kernel
theorem d_Join_init_4 : decode prog_6_method_1_code 4 = .ok (.aload_n 0, 1) := by decide +kernel
theorem d_Join_init_5 : decode prog_6_method_1_code 5 = .ok (.aload_n 1, 1) := by decide +kernel
theorem d_Join_init_6 : decode prog_6_method_1_code 6 = .ok (.putfield 7, 3) := by decide +kernel
theorem d_Join_init_9 : decode prog_6_method_1_code 9 = .ok (.aload_n 0, 1) := by decide +kernel
theorem d_Join_init_10 : decode prog_6_method_1_code 10 = .ok (.aload_n 2, 1) := by decide +kernel
theorem d_Join_init_11 : decode prog_6_method_1_code 11 = .ok (.putfield 13, 3) := by decide +kernel
theorem d_Join_init_14 : decode prog_6_method_1_code 14 = .ok (.aload_n 0, 1) := by decide +kernel
theorem d_Join_init_15 : decode prog_6_method_1_code 15 = .ok (.iload_n 3, 1) := by decide +kernel
theorem d_Join_init_16 : decode prog_6_method_1_code 16 = .ok (.putfield 16, 3) := by decide +kernel
theorem d_Join_init_19 : decode prog_6_method_1_code 19 = .ok (.aload_n 0, 1) := by decide +kernel
theorem d_Join_init_20 : decode prog_6_method_1_code 20 = .ok (.iload 4, 2) := by decide +kernel
theorem d_Join_init_22 : decode prog_6_method_1_code 22 = .ok (.putfield 20, 3) := by decide +kernel
theorem d_Join_init_25 : decode prog_6_method_1_code 25 = .ok (.return_, 1) := by decide +kernel
theorem d_DV_union_0 : decode prog_1_method_8_code 0 = .ok (.aload_n 0, 1) := by decide +kernel
theorem d_DV_union_1 : decode prog_1_method_8_code 1 = .ok (.iload_n 1, 1) := by decide +kernel
theorem d_DV_union_2 : decode prog_1_method_8_code 2 = .ok (.invokevirtual 76, 3) := by decide +kernel
theorem d_DV_union_5 : decode prog_1_method_8_code 5 = .ok (.astore_n 3, 1) := by decide +kernel
theorem d_DV_union_6 : decode prog_1_method_8_code 6 = .ok (.aload_n 0, 1) := by decide +kernel
theorem d_DV_union_7 : decode prog_1_method_8_code 7 = .ok (.iload_n 2, 1) := by decide +kernel
theorem d_DV_union_8 : decode prog_1_method_8_code 8 = .ok (.invokevirtual 76, 3) := by decide +kernel
theorem d_DV_union_11 : decode prog_1_method_8_code 11 = .ok (.astore 4, 2) := by decide +kernel
theorem d_DV_union_13 : decode prog_1_method_8_code 13 = .ok (.aload_n 3, 1) := by decide +kernel
theorem d_DV_union_14 : decode prog_1_method_8_code 14 = .ok (.getfield 106, 3) := by decide +kernel
theorem d_DV_union_17 : decode prog_1_method_8_code 17 = .ok (.getfield 110, 3) := by decide +kernel
theorem d_DV_union_20 : decode prog_1_method_8_code 20 = .ok (.aload 4, 2) := by decide +kernel
theorem d_DV_union_22 : decode prog_1_method_8_code 22 = .ok (.getfield 106, 3) := by decide +kernel
theorem d_DV_union_25 : decode prog_1_method_8_code 25 = .ok (.getfield 110, 3) := by decide +kernel
theorem d_DV_union_28 : decode prog_1_method_8_code 28 = .ok (.if_icmp .eq 13, 3) := by decide +kernel
theorem d_DV_union_31 : decode prog_1_method_8_code 31 = .ok (.new 43, 3) := by decide +kernel
theorem d_DV_union_34 : decode prog_1_method_8_code 34 = .ok (.dup, 1) := by decide +kernel
theorem d_DV_union_35 : decode prog_1_method_8_code 35 = .ok (.ldc 122, 2) := by decide +kernel
theorem d_DV_union_37 : decode prog_1_method_8_code 37 = .ok (.invokespecial 47, 3) := by decide +kernel
theorem d_DV_union_40 : decode prog_1_method_8_code 40 = .ok (.athrow, 1) := by decide +kernel
theorem d_DV_union_41 : decode prog_1_method_8_code 41 = .ok (.aload_n 0, 1) := by decide +kernel
theorem d_DV_union_42 : decode prog_1_method_8_code 42 = .ok (.new 124, 3) := by decide +kernel
theorem d_DV_union_45 : decode prog_1_method_8_code 45 = .ok (.dup, 1) := by decide +kernel
theorem d_DV_union_46 : decode prog_1_method_8_code 46 = .ok (.aload_n 3, 1) := by decide +kernel
theorem d_DV_union_47 : decode prog_1_method_8_code 47 = .ok (.aload 4, 2) := by decide +kernel
theorem d_DV_union_49 : decode prog_1_method_8_code 49 = .ok (.invokespecial 126, 3) := by decide +kernel
theorem d_DV_union_52 : decode prog_1_method_8_code 52 = .ok (.invokevirtual 91, 3) := by decide +kernel
theorem d_DV_union_55 : decode prog_1_method_8_code 55 = .ok (.ireturn, 1) := by decide +kernel
theorem d_Union_init_0 : decode prog_11_method_1_code 0 = .ok (.aload_n 0, 1) := by decide +kernel
theorem d_Union_init_1 : decode prog_11_method_1_code 1 = .ok (.invokespecial 1, 3) := by decide +kernel
theorem d_Union_init_4 : decode prog_11_method_1_code 4 = .ok (.aload_n 0, 1) := by decide +kernel
theorem d_Union_init_5 : decode prog_11_method_1_code 5 = .ok (.aload_n 1, 1) := by decide +kernel
theorem d_Union_init_6 : decode prog_11_method_1_code 6 = .ok (.putfield 7, 3) := by decide +kernel
theorem d_Union_init_9 : decode prog_11_method_1_code 9 = .ok (.aload_n 0, 1) := by decide +kernel
theorem d_Union_init_10 : decode prog_11_method_1_code 10 = .ok (.aload_n 2, 1) := by decide +kernel
theorem d_Union_init_11 : decode prog_11_method_1_code 11 = .ok (.putfield 13, 3) := by decide +kernel
theorem d_Union_init_14 : decode prog_11_method_1_code 14 = .ok (.return_, 1) := by decide +kernel
theorem d_DV_group_0 : decode prog_1_method_9_code 0 = .ok (.aload_n 0, 1) := by decide +kernel
theorem d_DV_group_1 : decode prog_1_method_9_code 1 = .ok (.iload_n 1, 1) := by decide +kernel
theorem d_DV_group_2 : decode prog_1_method_9_code 2 = .ok (.invokevirtual 76, 3) := by decide +kernel
theorem d_DV_group_5 : decode prog_1_method_9_code 5 = .ok (.astore 5, 2) := by decide +kernel
theorem d_DV_group_7 : decode prog_1_method_9_code 7 = .ok (.aload 5, 2) := by decide +kernel
theorem d_DV_group_9 : decode prog_1_method_9_code 9 = .ok (.iload_n 3, 1) := by decide +kernel
theorem d_DV_group_10 : decode prog_1_method_9_code 10 = .ok (.invokestatic 80, 3) := by decide +kernel
theorem d_DV_group_13 : decode prog_1_method_9_code 13 = .ok (.aload 5, 2) := by decide +kernel
theorem d_DV_group_15 : decode prog_1_method_9_code 15 = .ok (.iload 4, 2) := by decide +kernel
theorem d_DV_group_17 : decode prog_1_method_9_code 17 = .ok (.invokestatic 80, 3) := by decide +kernel
theorem d_DV_group_20 : decode prog_1_method_9_code 20 = .ok (.iload_n 2, 1) := by decide +kernel
theorem d_DV_group_21 : decode prog_1_method_9_code 21 = .ok (.ifCond .lt 8, 3) := by decide +kernel
theorem d_DV_group_24 : decode prog_1_method_9_code 24 = .ok (.iload_n 2, 1) := by decide +kernel
theorem d_DV_group_25 : decode prog_1_method_9_code 25 = .ok (.iconst 2, 1) := by decide +kernel
theorem d_DV_group_26 : decode prog_1_method_9_code 26 = .ok (.if_icmp .le 13, 3) := by decide +kernel
theorem d_DV_group_29 : decode prog_1_method_9_code 29 = .ok (.new 43, 3) := by decide +kernel
theorem d_DV_group_32 : decode prog_1_method_9_code 32 = .ok (.dup, 1) := by decide +kernel
theorem d_DV_group_33 : decode prog_1_method_9_code 33 = .ok (.ldc 129, 2) := by decide +kernel
theorem d_DV_group_35 : decode prog_1_method_9_code 35 = .ok (.invokespecial 47, 3) := by decide +kernel
theorem d_DV_group_38 : decode prog_1_method_9_code 38 = .ok (.athrow, 1) := by decide +kernel
theorem d_DV_group_39 : decode prog_1_method_9_code 39 = .ok (.aload_n 0, 1) := by decide +kernel
theorem d_DV_group_40 : decode prog_1_method_9_code 40 = .ok (.new 131, 3) := by decide +kernel
theorem d_DV_group_43 : decode prog_1_method_9_code 43 = .ok (.dup, 1) := by decide +kernel
theorem d_DV_group_44 : decode prog_1_method_9_code 44 = .ok (.aload 5, 2) := by decide +kernel
theorem d_DV_group_46 : decode prog_1_method_9_code 46 = .ok (.iload_n 2, 1) := by decide +kernel
theorem d_DV_group_47 : decode prog_1_method_9_code 47 = .ok (.iload_n 3, 1) := by decide +kernel
theorem d_DV_group_48 : decode prog_1_method_9_code 48 = .ok (.iload 4, 2) := by decide +kernel
theorem d_DV_group_50 : decode prog_1_method_9_code 50 = .ok (.invokespecial 133, 3) := by decide +kernel
theorem d_DV_group_53 : decode prog_1_method_9_code 53 = .ok (.invokevirtual 91, 3) := by decide +kernel
theorem d_DV_group_56 : decode prog_1_method_9_code 56 = .ok (.ireturn, 1) := by decide +kernel
theorem d_Group_init_0 : decode prog_5_method_1_code 0 = .ok (.aload_n 0, 1) := by decide +kernel
theorem d_Group_init_1 : decode prog_5_method_1_code 1 = .ok (.invokespecial 3, 3) := by decide +kernel
theorem d_Group_init_4 : decode prog_5_method_1_code 4 = .ok (.aload_n 0, 1) := by decide +kernel
theorem d_Group_init_5 : decode prog_5_method_1_code 5 = .ok (.aload_n 1, 1) := by decide +kernel
theorem d_Group_init_6 : decode prog_5_method_1_code 6 = .ok (.putfield 9, 3) := by decide +kernel
theorem d_Group_init_9 : decode prog_5_method_1_code 9 = .ok (.aload_n 0, 1) := by decide +kernel
theorem d_Group_init_10 : decode prog_5_method_1_code 10 = .ok (.iload_n 2, 1) := by decide +kernel
theorem d_Group_init_11 : decode prog_5_method_1_code 11 = .ok (.putfield 15, 3) := by decide +kernel
theorem d_Group_init_14 : decode prog_5_method_1_code 14 = .ok (.aload_n 0, 1) := by decide +kernel
theorem d_Group_init_15 : decode prog_5_method_1_code 15 = .ok (.iload_n 3, 1) := by decide +kernel
theorem d_Group_init_16 : decode prog_5_method_1_code 16 = .ok (.putfield 19, 3) := by decide +kernel
theorem d_Group_init_19 : decode prog_5_method_1_code 19 = .ok (.aload_n 0, 1) := by decide +kernel
theorem d_Group_init_20 : decode prog_5_method_1_code 20 = .ok (.iload 4, 2) := by decide +kernel
theorem d_Group_init_22 : decode prog_5_method_1_code 22 = .ok (.putfield 22, 3) := by decide +kernel
theorem d_Group_init_25 : decode prog_5_method_1_code 25 = .ok (.return_, 1) := by decide +kernel
theorem d_DV_distinct_0 : decode prog_1_method_10_code 0 = .ok (.aload_n 0, 1) := by decide +kernel
theorem d_DV_distinct_1 : decode prog_1_method_10_code 1 = .ok (.new 134, 3) := by decide +kernel
theorem d_DV_distinct_4 : decode prog_1_method_10_code 4 = .ok (.dup, 1) := by decide +kernel
theorem d_DV_distinct_5 : decode prog_1_method_10_code 5 = .ok (.aload_n 0, 1) := by decide +kernel
theorem d_DV_distinct_6 : decode prog_1_method_10_code 6 = .ok (.iload_n 1, 1) := by decide +kernel
theorem d_DV_distinct_7 : decode prog_1_method_10_code 7 = .ok (.invokevirtual 76, 3) := by decide +kernel
theorem d_DV_distinct_10 : decode prog_1_method_10_code 10 = .ok (.invokespecial 136, 3) := by decide +kernel
theorem d_DV_distinct_13 : decode prog_1_method_10_code 13 = .ok (.invokevirtual 91, 3) := by decide +kernel
theorem d_DV_distinct_16 : decode prog_1_method_10_code 16 = .ok (.ireturn, 1) := by decide +kernel
theorem d_Distinct_init_0 : decode prog_4_method_1_code 0 = .ok (.aload_n 0, 1) := by decide +kernel
theorem d_Distinct_init_1 : decode prog_4_method_1_code 1 = .ok (.invokespecial 1, 3) := by decide +kernel
theorem d_Distinct_init_4 : decode prog_4_method_1_code 4 = .ok (.aload_n 0, 1) := by decide +kernel
theorem d_Distinct_init_5 : decode prog_4_method_1_code 5 = .ok (.aload_n 1, 1) := by decide +kernel
theorem d_Distinct_init_6 : decode prog_4_method_1_code 6 = .ok (.putfield 7, 3) := by decide +kernel
theorem d_Distinct_init_9 : decode prog_4_method_1_code 9 = .ok (.return_, 1) := by decide +kernel
theorem d_DV_drop_0 : decode prog_1_method_11_code 0 = .ok (.aload_n 0, 1) := by decide +kernel
theorem d_DV_drop_1 : decode prog_1_method_11_code 1 = .ok (.getfield 15, 3) := by decide +kernel
theorem d_DV_drop_4 : decode prog_1_method_11_code 4 = .ok (.iconst 3, 1) := by decide +kernel
theorem d_DV_drop_5 : decode prog_1_method_11_code 5 = .ok (.if_icmp .ne 13, 3) := by decide +kernel
theorem d_DV_drop_8 : decode prog_1_method_11_code 8 = .ok (.new 52, 3) := by decide +kernel
theorem d_DV_drop_11 : decode prog_1_method_11_code 11 = .ok (.dup, 1) := by decide +kernel
theorem d_DV_drop_12 : decode prog_1_method_11_code 12 = .ok (.ldc 139, 2) := by decide +kernel
theorem d_DV_drop_14 : decode prog_1_method_11_code 14 = .ok (.invokespecial 56, 3) := by decide +kernel
theorem d_DV_drop_17 : decode prog_1_method_11_code 17 = .ok (.athrow, 1) := by decide +kernel
theorem d_DV_drop_18 : decode prog_1_method_11_code 18 = .ok (.aload_n 0, 1) := by decide +kernel
theorem d_DV_drop_19 : decode prog_1_method_11_code 19 = .ok (.dup, 1) := by decide +kernel
theorem d_DV_drop_20 : decode prog_1_method_11_code 20 = .ok (.getfield 15, 3) := by decide +kernel
theorem d_DV_drop_23 : decode prog_1_method_11_code 23 = .ok (.iconst 1, 1) := by decide +kernel
theorem d_DV_drop_24 : decode prog_1_method_11_code 24 = .ok (.isub, 1) := by decide +kernel
theorem d_DV_drop_25 : decode prog_1_method_11_code 25 = .ok (.putfield 15, 3) := by decide +kernel
theorem d_DV_drop_28 : decode prog_1_method_11_code 28 = .ok (.aload_n 0, 1) := by decide +kernel
theorem d_DV_drop_29 : decode prog_1_method_11_code 29 = .ok (.getfield 15, 3) := by decide +kernel
theorem d_DV_drop_32 : decode prog_1_method_11_code 32 = .ok (.ireturn, 1) := by decide +kernel
theorem d_DV_width_0 : decode prog_1_method_12_code 0 = .ok (.aload_n 0, 1) := by decide +kernel
theorem d_DV_width_1 : decode prog_1_method_12_code 1 = .ok (.iload_n 1, 1) := by decide +kernel
theorem d_DV_width_2 : decode prog_1_method_12_code 2 = .ok (.invokevirtual 76, 3) := by decide +kernel
theorem d_DV_width_5 : decode prog_1_method_12_code 5 = .ok (.getfield 106, 3) := by decide +kernel
theorem d_DV_width_8 : decode prog_1_method_12_code 8 = .ok (.getfield 110, 3) := by decide +kernel
theorem d_DV_width_11 : decode prog_1_method_12_code 11 = .ok (.ireturn, 1) := by decide +kernel
theorem d_DV_rows_0 : decode prog_1_method_13_code 0 = .ok (.aload_n 0, 1) := by decide +kernel
theorem d_DV_rows_1 : decode prog_1_method_13_code 1 = .ok (.iload_n 1, 1) := by decide +kernel
theorem d_DV_rows_2 : decode prog_1_method_13_code 2 = .ok (.invokevirtual 76, 3) := by decide +kernel
theorem d_DV_rows_5 : decode prog_1_method_13_code 5 = .ok (.getfield 106, 3) := by decide +kernel
theorem d_DV_rows_8 : decode prog_1_method_13_code 8 = .ok (.getfield 141, 3) := by decide +kernel
theorem d_DV_rows_11 : decode prog_1_method_13_code 11 = .ok (.ireturn, 1) := by decide +kernel
theorem d_DV_cell_0 : decode prog_1_method_14_code 0 = .ok (.aload_n 0, 1) := by decide +kernel
theorem d_DV_cell_1 : decode prog_1_method_14_code 1 = .ok (.iload_n 1, 1) := by decide +kernel
theorem d_DV_cell_2 : decode prog_1_method_14_code 2 = .ok (.invokevirtual 76, 3) := by decide +kernel
theorem d_DV_cell_5 : decode prog_1_method_14_code 5 = .ok (.astore 4, 2) := by decide +kernel
theorem d_DV_cell_7 : decode prog_1_method_14_code 7 = .ok (.aload 4, 2) := by decide +kernel
theorem d_DV_cell_9 : decode prog_1_method_14_code 9 = .ok (.iload_n 3, 1) := by decide +kernel
theorem d_DV_cell_10 : decode prog_1_method_14_code 10 = .ok (.invokestatic 80, 3) := by decide +kernel
theorem d_DV_cell_13 : decode prog_1_method_14_code 13 = .ok (.aload 4, 2) := by decide +kernel
theorem d_DV_cell_15 : decode prog_1_method_14_code 15 = .ok (.iload_n 2, 1) := by decide +kernel
theorem d_DV_cell_16 : decode prog_1_method_14_code 16 = .ok (.invokestatic 144, 3) := by decide +kernel
theorem d_DV_cell_19 : decode prog_1_method_14_code 19 = .ok (.aload 4, 2) := by decide +kernel
theorem d_DV_cell_21 : decode prog_1_method_14_code 21 = .ok (.getfield 106, 3) := by decide +kernel
theorem d_DV_cell_24 : decode prog_1_method_14_code 24 = .ok (.iload_n 2, 1) := by decide +kernel
theorem d_DV_cell_25 : decode prog_1_method_14_code 25 = .ok (.iload_n 3, 1) := by decide +kernel
theorem d_DV_cell_26 : decode prog_1_method_14_code 26 = .ok (.invokevirtual 147, 3) := by decide +kernel
theorem d_DV_cell_29 : decode prog_1_method_14_code 29 = .ok (.ireturn, 1) := by decide +kernel
theorem d_DV_needRow_0 : decode prog_1_method_22_code 0 = .ok (.iload_n 1, 1) := by decide +kernel
theorem d_DV_needRow_1 : decode prog_1_method_22_code 1 = .ok (.ifCond .lt 14, 3) := by decide +kernel
theorem d_DV_needRow_4 : decode prog_1_method_22_code 4 = .ok (.iload_n 1, 1) := by decide +kernel
theorem d_DV_needRow_5 : decode prog_1_method_22_code 5 = .ok (.aload_n 0, 1) := by decide +kernel
theorem d_DV_needRow_6 : decode prog_1_method_22_code 6 = .ok (.getfield 106, 3) := by decide +kernel
theorem d_DV_needRow_9 : decode prog_1_method_22_code 9 = .ok (.getfield 141, 3) := by decide +kernel
theorem d_DV_needRow_12 : decode prog_1_method_22_code 12 = .ok (.if_icmp .lt 13, 3) := by decide +kernel
theorem d_DV_needRow_15 : decode prog_1_method_22_code 15 = .ok (.new 166, 3) := by decide +kernel
theorem d_DV_needRow_18 : decode prog_1_method_22_code 18 = .ok (.dup, 1) := by decide +kernel
theorem d_DV_needRow_19 : decode prog_1_method_22_code 19 = .ok (.ldc 168, 2) := by decide +kernel
theorem d_DV_needRow_21 : decode prog_1_method_22_code 21 = .ok (.invokespecial 170, 3) := by decide +kernel
theorem d_DV_needRow_24 : decode prog_1_method_22_code 24 = .ok (.athrow, 1) := by decide +kernel
theorem d_DV_needRow_25 : decode prog_1_method_22_code 25 = .ok (.return_, 1) := by decide +kernel
theorem d_DV_times_0 : decode prog_1_method_15_code 0 = .ok (.aload_n 0, 1) := by decide +kernel
theorem d_DV_times_1 : decode prog_1_method_15_code 1 = .ok (.iload_n 1, 1) := by decide +kernel
theorem d_DV_times_2 : decode prog_1_method_15_code 2 = .ok (.invokevirtual 76, 3) := by decide +kernel
theorem d_DV_times_5 : decode prog_1_method_15_code 5 = .ok (.astore_n 3, 1) := by decide +kernel
theorem d_DV_times_6 : decode prog_1_method_15_code 6 = .ok (.aload_n 3, 1) := by decide +kernel
theorem d_DV_times_7 : decode prog_1_method_15_code 7 = .ok (.iload_n 2, 1) := by decide +kernel
theorem d_DV_times_8 : decode prog_1_method_15_code 8 = .ok (.invokestatic 144, 3) := by decide +kernel
theorem d_DV_times_11 : decode prog_1_method_15_code 11 = .ok (.aload_n 3, 1) := by decide +kernel
theorem d_DV_times_12 : decode prog_1_method_15_code 12 = .ok (.getfield 106, 3) := by decide +kernel
theorem d_DV_times_15 : decode prog_1_method_15_code 15 = .ok (.iload_n 2, 1) := by decide +kernel
theorem d_DV_times_16 : decode prog_1_method_15_code 16 = .ok (.invokevirtual 150, 3) := by decide +kernel
theorem d_DV_times_19 : decode prog_1_method_15_code 19 = .ok (.lreturn, 1) := by decide +kernel
theorem d_DV_many_0 : decode prog_1_method_16_code 0 = .ok (.aload_n 0, 1) := by decide +kernel
theorem d_DV_many_1 : decode prog_1_method_16_code 1 = .ok (.iload_n 1, 1) := by decide +kernel
theorem d_DV_many_2 : decode prog_1_method_16_code 2 = .ok (.invokevirtual 76, 3) := by decide +kernel
theorem d_DV_many_5 : decode prog_1_method_16_code 5 = .ok (.getfield 106, 3) := by decide +kernel
theorem d_DV_many_8 : decode prog_1_method_16_code 8 = .ok (.astore 6, 2) := by decide +kernel
theorem d_DV_many_10 : decode prog_1_method_16_code 10 = .ok (.aload 6, 2) := by decide +kernel
theorem d_DV_many_12 : decode prog_1_method_16_code 12 = .ok (.iconst 0, 1) := by decide +kernel
theorem d_DV_many_13 : decode prog_1_method_16_code 13 = .ok (.iload_n 2, 1) := by decide +kernel
theorem d_DV_many_14 : decode prog_1_method_16_code 14 = .ok (.invokevirtual 154, 3) := by decide +kernel
theorem d_DV_many_17 : decode prog_1_method_16_code 17 = .ok (.aload 6, 2) := by decide +kernel
theorem d_DV_many_19 : decode prog_1_method_16_code 19 = .ok (.iconst 1, 1) := by decide +kernel
theorem d_DV_many_20 : decode prog_1_method_16_code 20 = .ok (.iload_n 3, 1) := by decide +kernel
theorem d_DV_many_21 : decode prog_1_method_16_code 21 = .ok (.invokevirtual 154, 3) := by decide +kernel
theorem d_DV_many_24 : decode prog_1_method_16_code 24 = .ok (.aload 6, 2) := by decide +kernel
theorem d_DV_many_26 : decode prog_1_method_16_code 26 = .ok (.iconst 2, 1) := by decide +kernel
theorem d_DV_many_27 : decode prog_1_method_16_code 27 = .ok (.iload 4, 2) := by decide +kernel
theorem d_DV_many_29 : decode prog_1_method_16_code 29 = .ok (.invokevirtual 154, 3) := by decide +kernel
theorem d_DV_many_32 : decode prog_1_method_16_code 32 = .ok (.aload 6, 2) := by decide +kernel
theorem d_DV_many_34 : decode prog_1_method_16_code 34 = .ok (.iconst 3, 1) := by decide +kernel
theorem d_DV_many_35 : decode prog_1_method_16_code 35 = .ok (.iload 5, 2) := by decide +kernel
theorem d_DV_many_37 : decode prog_1_method_16_code 37 = .ok (.invokevirtual 154, 3) := by decide +kernel
theorem d_DV_many_40 : decode prog_1_method_16_code 40 = .ok (.aload 6, 2) := by decide +kernel
theorem d_DV_many_42 : decode prog_1_method_16_code 42 = .ok (.invokevirtual 158, 3) := by decide +kernel
theorem d_DV_many_45 : decode prog_1_method_16_code 45 = .ok (.lreturn, 1) := by decide +kernel
theorem d_Bag_timesOfPending_0 : decode prog_2_method_10_code 0 = .ok (.aload_n 0, 1) := by decide +kernel
theorem d_Bag_timesOfPending_1 : decode prog_2_method_10_code 1 = .ok (.invokevirtual 43, 3) := by decide +kernel
theorem d_Bag_timesOfPending_4 : decode prog_2_method_10_code 4 = .ok (.istore_n 1, 1) := by decide +kernel
theorem d_Bag_timesOfPending_5 : decode prog_2_method_10_code 5 = .ok (.aload_n 0, 1) := by decide +kernel
theorem d_Bag_timesOfPending_6 : decode prog_2_method_10_code 6 = .ok (.iload_n 1, 1) := by decide +kernel
theorem d_Bag_timesOfPending_7 : decode prog_2_method_10_code 7 = .ok (.invokevirtual 47, 3) := by decide +kernel
theorem d_Bag_timesOfPending_10 : decode prog_2_method_10_code 10 = .ok (.ifCond .eq 12, 3) := by decide +kernel
theorem d_Bag_timesOfPending_13 : decode prog_2_method_10_code 13 = .ok (.aload_n 0, 1) := by decide +kernel
theorem d_Bag_timesOfPending_14 : decode prog_2_method_10_code 14 = .ok (.getfield 22, 3) := by decide +kernel
theorem d_Bag_timesOfPending_17 : decode prog_2_method_10_code 17 = .ok (.iload_n 1, 1) := by decide +kernel
theorem d_Bag_timesOfPending_18 : decode prog_2_method_10_code 18 = .ok (.laload, 1) := by decide +kernel
theorem d_Bag_timesOfPending_19 : decode prog_2_method_10_code 19 = .ok (.goto 4, 3) := by decide +kernel
theorem d_Bag_timesOfPending_22 : decode prog_2_method_10_code 22 = .ok (.lconst 0, 1) := by decide +kernel
theorem d_Bag_timesOfPending_23 : decode prog_2_method_10_code 23 = .ok (.lreturn, 1) := by decide +kernel
theorem d_DV_moved_0 : decode prog_1_method_17_code 0 = .ok (.aload_n 0, 1) := by decide +kernel
theorem d_DV_moved_1 : decode prog_1_method_17_code 1 = .ok (.iload_n 1, 1) := by decide +kernel
theorem d_DV_moved_2 : decode prog_1_method_17_code 2 = .ok (.invokevirtual 76, 3) := by decide +kernel
theorem d_DV_moved_5 : decode prog_1_method_17_code 5 = .ok (.getfield 73, 3) := by decide +kernel
theorem d_DV_moved_8 : decode prog_1_method_17_code 8 = .ok (.ireturn, 1) := by decide +kernel
