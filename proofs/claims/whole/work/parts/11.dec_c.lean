theorem d_Mo_takeOver_0 : decode prog_14_method_22_code 0 = .ok (.aload_n 0, 1) := by decide +kernel
theorem d_Mo_takeOver_1 : decode prog_14_method_22_code 1 = .ok (.getfield 35, 3) := by decide +kernel
theorem d_Mo_takeOver_4 : decode prog_14_method_22_code 4 = .ok (.iload_n 1, 1) := by decide +kernel
theorem d_Mo_takeOver_5 : decode prog_14_method_22_code 5 = .ok (.aload_n 0, 1) := by decide +kernel
theorem d_Mo_takeOver_6 : decode prog_14_method_22_code 6 = .ok (.iload_n 1, 1) := by decide +kernel
theorem d_Mo_takeOver_7 : decode prog_14_method_22_code 7 = .ok (.invokevirtual 130, 3) := by decide +kernel
theorem d_Mo_takeOver_10 : decode prog_14_method_22_code 10 = .ok (.iastore, 1) := by decide +kernel
theorem d_Mo_takeOver_11 : decode prog_14_method_22_code 11 = .ok (.aload_n 0, 1) := by decide +kernel
theorem d_Mo_takeOver_12 : decode prog_14_method_22_code 12 = .ok (.getfield 38, 3) := by decide +kernel
theorem d_Mo_takeOver_15 : decode prog_14_method_22_code 15 = .ok (.iload_n 1, 1) := by decide +kernel
theorem d_Mo_takeOver_16 : decode prog_14_method_22_code 16 = .ok (.aload_n 0, 1) := by decide +kernel
theorem d_Mo_takeOver_17 : decode prog_14_method_22_code 17 = .ok (.getfield 38, 3) := by decide +kernel
theorem d_Mo_takeOver_20 : decode prog_14_method_22_code 20 = .ok (.bipush 12, 2) := by decide +kernel
theorem d_Mo_takeOver_22 : decode prog_14_method_22_code 22 = .ok (.iload_n 1, 1) := by decide +kernel
theorem d_Mo_takeOver_23 : decode prog_14_method_22_code 23 = .ok (.iadd, 1) := by decide +kernel
theorem d_Mo_takeOver_24 : decode prog_14_method_22_code 24 = .ok (.iaload, 1) := by decide +kernel
theorem d_Mo_takeOver_25 : decode prog_14_method_22_code 25 = .ok (.iastore, 1) := by decide +kernel
theorem d_Mo_takeOver_26 : decode prog_14_method_22_code 26 = .ok (.iconst 0, 1) := by decide +kernel
theorem d_Mo_takeOver_27 : decode prog_14_method_22_code 27 = .ok (.istore_n 2, 1) := by decide +kernel
theorem d_Mo_takeOver_28 : decode prog_14_method_22_code 28 = .ok (.iload_n 2, 1) := by decide +kernel
theorem d_Mo_takeOver_29 : decode prog_14_method_22_code 29 = .ok (.bipush 16, 2) := by decide +kernel
theorem d_Mo_takeOver_31 : decode prog_14_method_22_code 31 = .ok (.if_icmp .ge 34, 3) := by decide +kernel
theorem d_Mo_takeOver_34 : decode prog_14_method_22_code 34 = .ok (.aload_n 0, 1) := by decide +kernel
theorem d_Mo_takeOver_35 : decode prog_14_method_22_code 35 = .ok (.getfield 41, 3) := by decide +kernel
theorem d_Mo_takeOver_38 : decode prog_14_method_22_code 38 = .ok (.bipush 16, 2) := by decide +kernel
theorem d_Mo_takeOver_40 : decode prog_14_method_22_code 40 = .ok (.iload_n 1, 1) := by decide +kernel
theorem d_Mo_takeOver_41 : decode prog_14_method_22_code 41 = .ok (.imul, 1) := by decide +kernel
theorem d_Mo_takeOver_42 : decode prog_14_method_22_code 42 = .ok (.iload_n 2, 1) := by decide +kernel
theorem d_Mo_takeOver_43 : decode prog_14_method_22_code 43 = .ok (.iadd, 1) := by decide +kernel
theorem d_Mo_takeOver_44 : decode prog_14_method_22_code 44 = .ok (.aload_n 0, 1) := by decide +kernel
theorem d_Mo_takeOver_45 : decode prog_14_method_22_code 45 = .ok (.getfield 41, 3) := by decide +kernel
theorem d_Mo_takeOver_48 : decode prog_14_method_22_code 48 = .ok (.bipush 16, 2) := by decide +kernel
theorem d_Mo_takeOver_50 : decode prog_14_method_22_code 50 = .ok (.bipush 12, 2) := by decide +kernel
theorem d_Mo_takeOver_52 : decode prog_14_method_22_code 52 = .ok (.iload_n 1, 1) := by decide +kernel
theorem d_Mo_takeOver_53 : decode prog_14_method_22_code 53 = .ok (.iadd, 1) := by decide +kernel
theorem d_Mo_takeOver_54 : decode prog_14_method_22_code 54 = .ok (.imul, 1) := by decide +kernel
theorem d_Mo_takeOver_55 : decode prog_14_method_22_code 55 = .ok (.iload_n 2, 1) := by decide +kernel
theorem d_Mo_takeOver_56 : decode prog_14_method_22_code 56 = .ok (.iadd, 1) := by decide +kernel
theorem d_Mo_takeOver_57 : decode prog_14_method_22_code 57 = .ok (.laload, 1) := by decide +kernel
theorem d_Mo_takeOver_58 : decode prog_14_method_22_code 58 = .ok (.lastore, 1) := by decide +kernel
theorem d_Mo_takeOver_59 : decode prog_14_method_22_code 59 = .ok (.iinc 2 1, 3) := by decide +kernel
theorem d_Mo_takeOver_62 : decode prog_14_method_22_code 62 = .ok (.goto (-34), 3) := by decide +kernel
theorem d_Mo_takeOver_65 : decode prog_14_method_22_code 65 = .ok (.iconst 0, 1) := by decide +kernel
theorem d_Mo_takeOver_66 : decode prog_14_method_22_code 66 = .ok (.istore_n 2, 1) := by decide +kernel
theorem d_Mo_takeOver_67 : decode prog_14_method_22_code 67 = .ok (.iload_n 2, 1) := by decide +kernel
theorem d_Mo_takeOver_68 : decode prog_14_method_22_code 68 = .ok (.bipush 64, 2) := by decide +kernel
theorem d_Mo_takeOver_70 : decode prog_14_method_22_code 70 = .ok (.if_icmp .ge 34, 3) := by decide +kernel
theorem d_Mo_takeOver_73 : decode prog_14_method_22_code 73 = .ok (.aload_n 0, 1) := by decide +kernel
theorem d_Mo_takeOver_74 : decode prog_14_method_22_code 74 = .ok (.getfield 45, 3) := by decide +kernel
theorem d_Mo_takeOver_77 : decode prog_14_method_22_code 77 = .ok (.bipush 64, 2) := by decide +kernel
theorem d_Mo_takeOver_79 : decode prog_14_method_22_code 79 = .ok (.iload_n 1, 1) := by decide +kernel
theorem d_Mo_takeOver_80 : decode prog_14_method_22_code 80 = .ok (.imul, 1) := by decide +kernel
theorem d_Mo_takeOver_81 : decode prog_14_method_22_code 81 = .ok (.iload_n 2, 1) := by decide +kernel
theorem d_Mo_takeOver_82 : decode prog_14_method_22_code 82 = .ok (.iadd, 1) := by decide +kernel
theorem d_Mo_takeOver_83 : decode prog_14_method_22_code 83 = .ok (.aload_n 0, 1) := by decide +kernel
theorem d_Mo_takeOver_84 : decode prog_14_method_22_code 84 = .ok (.getfield 45, 3) := by decide +kernel
theorem d_Mo_takeOver_87 : decode prog_14_method_22_code 87 = .ok (.bipush 64, 2) := by decide +kernel
theorem d_Mo_takeOver_89 : decode prog_14_method_22_code 89 = .ok (.bipush 12, 2) := by decide +kernel
theorem d_Mo_takeOver_91 : decode prog_14_method_22_code 91 = .ok (.iload_n 1, 1) := by decide +kernel
theorem d_Mo_takeOver_92 : decode prog_14_method_22_code 92 = .ok (.iadd, 1) := by decide +kernel
theorem d_Mo_takeOver_93 : decode prog_14_method_22_code 93 = .ok (.imul, 1) := by decide +kernel
theorem d_Mo_takeOver_94 : decode prog_14_method_22_code 94 = .ok (.iload_n 2, 1) := by decide +kernel
theorem d_Mo_takeOver_95 : decode prog_14_method_22_code 95 = .ok (.iadd, 1) := by decide +kernel
theorem d_Mo_takeOver_96 : decode prog_14_method_22_code 96 = .ok (.iaload, 1) := by decide +kernel
theorem d_Mo_takeOver_97 : decode prog_14_method_22_code 97 = .ok (.iastore, 1) := by decide +kernel
theorem d_Mo_takeOver_98 : decode prog_14_method_22_code 98 = .ok (.iinc 2 1, 3) := by decide +kernel
theorem d_Mo_takeOver_101 : decode prog_14_method_22_code 101 = .ok (.goto (-34), 3) := by decide +kernel
theorem d_Mo_takeOver_104 : decode prog_14_method_22_code 104 = .ok (.return_, 1) := by decide +kernel
theorem d_Mo_differing_0 : decode prog_14_method_21_code 0 = .ok (.iconst 0, 1) := by decide +kernel
theorem d_Mo_differing_1 : decode prog_14_method_21_code 1 = .ok (.istore_n 2, 1) := by decide +kernel
theorem d_Mo_differing_2 : decode prog_14_method_21_code 2 = .ok (.iconst 0, 1) := by decide +kernel
theorem d_Mo_differing_3 : decode prog_14_method_21_code 3 = .ok (.istore_n 3, 1) := by decide +kernel
theorem d_Mo_differing_4 : decode prog_14_method_21_code 4 = .ok (.iload_n 3, 1) := by decide +kernel
theorem d_Mo_differing_5 : decode prog_14_method_21_code 5 = .ok (.aload_n 0, 1) := by decide +kernel
theorem d_Mo_differing_6 : decode prog_14_method_21_code 6 = .ok (.getfield 38, 3) := by decide +kernel
theorem d_Mo_differing_9 : decode prog_14_method_21_code 9 = .ok (.iload_n 1, 1) := by decide +kernel
theorem d_Mo_differing_10 : decode prog_14_method_21_code 10 = .ok (.iaload, 1) := by decide +kernel
theorem d_Mo_differing_11 : decode prog_14_method_21_code 11 = .ok (.if_icmp .ge 48, 3) := by decide +kernel
theorem d_Mo_differing_14 : decode prog_14_method_21_code 14 = .ok (.aload_n 0, 1) := by decide +kernel
theorem d_Mo_differing_15 : decode prog_14_method_21_code 15 = .ok (.bipush 12, 2) := by decide +kernel
theorem d_Mo_differing_17 : decode prog_14_method_21_code 17 = .ok (.iload_n 1, 1) := by decide +kernel
theorem d_Mo_differing_18 : decode prog_14_method_21_code 18 = .ok (.iadd, 1) := by decide +kernel
theorem d_Mo_differing_19 : decode prog_14_method_21_code 19 = .ok (.aload_n 0, 1) := by decide +kernel
theorem d_Mo_differing_20 : decode prog_14_method_21_code 20 = .ok (.getfield 13, 3) := by decide +kernel
theorem d_Mo_differing_23 : decode prog_14_method_21_code 23 = .ok (.iload_n 1, 1) := by decide +kernel
theorem d_Mo_differing_24 : decode prog_14_method_21_code 24 = .ok (.iaload, 1) := by decide +kernel
theorem d_Mo_differing_25 : decode prog_14_method_21_code 25 = .ok (.iload_n 1, 1) := by decide +kernel
theorem d_Mo_differing_26 : decode prog_14_method_21_code 26 = .ok (.iload_n 3, 1) := by decide +kernel
theorem d_Mo_differing_27 : decode prog_14_method_21_code 27 = .ok (.invokevirtual 126, 3) := by decide +kernel
theorem d_Mo_differing_30 : decode prog_14_method_21_code 30 = .ok (.aload_n 0, 1) := by decide +kernel
theorem d_Mo_differing_31 : decode prog_14_method_21_code 31 = .ok (.getfield 41, 3) := by decide +kernel
theorem d_Mo_differing_34 : decode prog_14_method_21_code 34 = .ok (.bipush 16, 2) := by decide +kernel
theorem d_Mo_differing_36 : decode prog_14_method_21_code 36 = .ok (.iload_n 1, 1) := by decide +kernel
theorem d_Mo_differing_37 : decode prog_14_method_21_code 37 = .ok (.imul, 1) := by decide +kernel
theorem d_Mo_differing_38 : decode prog_14_method_21_code 38 = .ok (.iload_n 3, 1) := by decide +kernel
theorem d_Mo_differing_39 : decode prog_14_method_21_code 39 = .ok (.iadd, 1) := by decide +kernel
theorem d_Mo_differing_40 : decode prog_14_method_21_code 40 = .ok (.laload, 1) := by decide +kernel
theorem d_Mo_differing_41 : decode prog_14_method_21_code 41 = .ok (.lcmp, 1) := by decide +kernel
theorem d_Mo_differing_42 : decode prog_14_method_21_code 42 = .ok (.ifCond .eq 9, 3) := by decide +kernel
theorem d_Mo_differing_45 : decode prog_14_method_21_code 45 = .ok (.iload_n 2, 1) := by decide +kernel
theorem d_Mo_differing_46 : decode prog_14_method_21_code 46 = .ok (.iconst 1, 1) := by decide +kernel
theorem d_Mo_differing_47 : decode prog_14_method_21_code 47 = .ok (.iadd, 1) := by decide +kernel
theorem d_Mo_differing_48 : decode prog_14_method_21_code 48 = .ok (.goto 4, 3) := by decide +kernel
theorem d_Mo_differing_51 : decode prog_14_method_21_code 51 = .ok (.iload_n 2, 1) := by decide +kernel
theorem d_Mo_differing_52 : decode prog_14_method_21_code 52 = .ok (.istore_n 2, 1) := by decide +kernel
theorem d_Mo_differing_53 : decode prog_14_method_21_code 53 = .ok (.iinc 3 1, 3) := by decide +kernel
theorem d_Mo_differing_56 : decode prog_14_method_21_code 56 = .ok (.goto (-52), 3) := by decide +kernel
theorem d_Mo_differing_59 : decode prog_14_method_21_code 59 = .ok (.iconst 0, 1) := by decide +kernel
theorem d_Mo_differing_60 : decode prog_14_method_21_code 60 = .ok (.istore_n 3, 1) := by decide +kernel
theorem d_Mo_differing_61 : decode prog_14_method_21_code 61 = .ok (.iload_n 3, 1) := by decide +kernel
theorem d_Mo_differing_62 : decode prog_14_method_21_code 62 = .ok (.aload_n 0, 1) := by decide +kernel
theorem d_Mo_differing_63 : decode prog_14_method_21_code 63 = .ok (.getfield 38, 3) := by decide +kernel
theorem d_Mo_differing_66 : decode prog_14_method_21_code 66 = .ok (.bipush 12, 2) := by decide +kernel
theorem d_Mo_differing_68 : decode prog_14_method_21_code 68 = .ok (.iload_n 1, 1) := by decide +kernel
theorem d_Mo_differing_69 : decode prog_14_method_21_code 69 = .ok (.iadd, 1) := by decide +kernel
theorem d_Mo_differing_70 : decode prog_14_method_21_code 70 = .ok (.iaload, 1) := by decide +kernel
theorem d_Mo_differing_71 : decode prog_14_method_21_code 71 = .ok (.if_icmp .ge 38, 3) := by decide +kernel
theorem d_Mo_differing_74 : decode prog_14_method_21_code 74 = .ok (.aload_n 0, 1) := by decide +kernel
theorem d_Mo_differing_75 : decode prog_14_method_21_code 75 = .ok (.iload_n 1, 1) := by decide +kernel
theorem d_Mo_differing_76 : decode prog_14_method_21_code 76 = .ok (.aload_n 0, 1) := by decide +kernel
theorem d_Mo_differing_77 : decode prog_14_method_21_code 77 = .ok (.getfield 13, 3) := by decide +kernel
theorem d_Mo_differing_80 : decode prog_14_method_21_code 80 = .ok (.iload_n 1, 1) := by decide +kernel
theorem d_Mo_differing_81 : decode prog_14_method_21_code 81 = .ok (.iaload, 1) := by decide +kernel
theorem d_Mo_differing_82 : decode prog_14_method_21_code 82 = .ok (.bipush 12, 2) := by decide +kernel
theorem d_Mo_differing_84 : decode prog_14_method_21_code 84 = .ok (.iload_n 1, 1) := by decide +kernel
theorem d_Mo_differing_85 : decode prog_14_method_21_code 85 = .ok (.iadd, 1) := by decide +kernel
theorem d_Mo_differing_86 : decode prog_14_method_21_code 86 = .ok (.iload_n 3, 1) := by decide +kernel
theorem d_Mo_differing_87 : decode prog_14_method_21_code 87 = .ok (.invokevirtual 126, 3) := by decide +kernel
theorem d_Mo_differing_90 : decode prog_14_method_21_code 90 = .ok (.lconst 0, 1) := by decide +kernel
theorem d_Mo_differing_91 : decode prog_14_method_21_code 91 = .ok (.lcmp, 1) := by decide +kernel
theorem d_Mo_differing_92 : decode prog_14_method_21_code 92 = .ok (.ifCond .ne 9, 3) := by decide +kernel
theorem d_Mo_differing_95 : decode prog_14_method_21_code 95 = .ok (.iload_n 2, 1) := by decide +kernel
theorem d_Mo_differing_96 : decode prog_14_method_21_code 96 = .ok (.iconst 1, 1) := by decide +kernel
theorem d_Mo_differing_97 : decode prog_14_method_21_code 97 = .ok (.iadd, 1) := by decide +kernel
theorem d_Mo_differing_98 : decode prog_14_method_21_code 98 = .ok (.goto 4, 3) := by decide +kernel
theorem d_Mo_differing_101 : decode prog_14_method_21_code 101 = .ok (.iload_n 2, 1) := by decide +kernel
theorem d_Mo_differing_102 : decode prog_14_method_21_code 102 = .ok (.istore_n 2, 1) := by decide +kernel
theorem d_Mo_differing_103 : decode prog_14_method_21_code 103 = .ok (.iinc 3 1, 3) := by decide +kernel
theorem d_Mo_differing_106 : decode prog_14_method_21_code 106 = .ok (.goto (-45), 3) := by decide +kernel
theorem d_Mo_differing_109 : decode prog_14_method_21_code 109 = .ok (.iload_n 2, 1) := by decide +kernel
theorem d_Mo_differing_110 : decode prog_14_method_21_code 110 = .ok (.ireturn, 1) := by decide +kernel
theorem d_Mo_timesOf_0 : decode prog_14_method_20_code 0 = .ok (.iconst 0, 1) := by decide +kernel
theorem d_Mo_timesOf_1 : decode prog_14_method_20_code 1 = .ok (.istore 5, 2) := by decide +kernel
theorem d_Mo_timesOf_3 : decode prog_14_method_20_code 3 = .ok (.iload 5, 2) := by decide +kernel
theorem d_Mo_timesOf_5 : decode prog_14_method_20_code 5 = .ok (.aload_n 0, 1) := by decide +kernel
theorem d_Mo_timesOf_6 : decode prog_14_method_20_code 6 = .ok (.getfield 38, 3) := by decide +kernel
theorem d_Mo_timesOf_9 : decode prog_14_method_20_code 9 = .ok (.iload_n 1, 1) := by decide +kernel
theorem d_Mo_timesOf_10 : decode prog_14_method_20_code 10 = .ok (.iaload, 1) := by decide +kernel
theorem d_Mo_timesOf_11 : decode prog_14_method_20_code 11 = .ok (.if_icmp .ge 78, 3) := by decide +kernel
theorem d_Mo_timesOf_14 : decode prog_14_method_20_code 14 = .ok (.iconst 1, 1) := by decide +kernel
theorem d_Mo_timesOf_15 : decode prog_14_method_20_code 15 = .ok (.istore 6, 2) := by decide +kernel
theorem d_Mo_timesOf_17 : decode prog_14_method_20_code 17 = .ok (.iconst 0, 1) := by decide +kernel
theorem d_Mo_timesOf_18 : decode prog_14_method_20_code 18 = .ok (.istore 7, 2) := by decide +kernel
theorem d_Mo_timesOf_20 : decode prog_14_method_20_code 20 = .ok (.iload 7, 2) := by decide +kernel
theorem d_Mo_timesOf_22 : decode prog_14_method_20_code 22 = .ok (.iload_n 2, 1) := by decide +kernel
theorem d_Mo_timesOf_23 : decode prog_14_method_20_code 23 = .ok (.if_icmp .ge 42, 3) := by decide +kernel
theorem d_Mo_timesOf_26 : decode prog_14_method_20_code 26 = .ok (.iload 6, 2) := by decide +kernel
theorem d_Mo_timesOf_28 : decode prog_14_method_20_code 28 = .ok (.ifCond .eq 28, 3) := by decide +kernel
theorem d_Mo_timesOf_31 : decode prog_14_method_20_code 31 = .ok (.aload_n 0, 1) := by decide +kernel
theorem d_Mo_timesOf_32 : decode prog_14_method_20_code 32 = .ok (.iload_n 1, 1) := by decide +kernel
theorem d_Mo_timesOf_33 : decode prog_14_method_20_code 33 = .ok (.iload 5, 2) := by decide +kernel
theorem d_Mo_timesOf_35 : decode prog_14_method_20_code 35 = .ok (.iload 7, 2) := by decide +kernel
theorem d_Mo_timesOf_37 : decode prog_14_method_20_code 37 = .ok (.invokevirtual 83, 3) := by decide +kernel
theorem d_Mo_timesOf_40 : decode prog_14_method_20_code 40 = .ok (.aload_n 0, 1) := by decide +kernel
theorem d_Mo_timesOf_41 : decode prog_14_method_20_code 41 = .ok (.iload_n 3, 1) := by decide +kernel
theorem d_Mo_timesOf_42 : decode prog_14_method_20_code 42 = .ok (.iload 4, 2) := by decide +kernel
theorem d_Mo_timesOf_44 : decode prog_14_method_20_code 44 = .ok (.iload 7, 2) := by decide +kernel
theorem d_Mo_timesOf_46 : decode prog_14_method_20_code 46 = .ok (.invokevirtual 83, 3) := by decide +kernel
theorem d_Mo_timesOf_49 : decode prog_14_method_20_code 49 = .ok (.if_icmp .ne 7, 3) := by decide +kernel
theorem d_Mo_timesOf_52 : decode prog_14_method_20_code 52 = .ok (.iconst 1, 1) := by decide +kernel
theorem d_Mo_timesOf_53 : decode prog_14_method_20_code 53 = .ok (.goto 4, 3) := by decide +kernel
theorem d_Mo_timesOf_56 : decode prog_14_method_20_code 56 = .ok (.iconst 0, 1) := by decide +kernel
theorem d_Mo_timesOf_57 : decode prog_14_method_20_code 57 = .ok (.istore 6, 2) := by decide +kernel
theorem d_Mo_timesOf_59 : decode prog_14_method_20_code 59 = .ok (.iinc 7 1, 3) := by decide +kernel
theorem d_Mo_timesOf_62 : decode prog_14_method_20_code 62 = .ok (.goto (-42), 3) := by decide +kernel
theorem d_Mo_timesOf_65 : decode prog_14_method_20_code 65 = .ok (.iload 6, 2) := by decide +kernel
theorem d_Mo_timesOf_67 : decode prog_14_method_20_code 67 = .ok (.ifCond .eq 16, 3) := by decide +kernel
theorem d_Mo_timesOf_70 : decode prog_14_method_20_code 70 = .ok (.aload_n 0, 1) := by decide +kernel
theorem d_Mo_timesOf_71 : decode prog_14_method_20_code 71 = .ok (.getfield 41, 3) := by decide +kernel
theorem d_Mo_timesOf_74 : decode prog_14_method_20_code 74 = .ok (.bipush 16, 2) := by decide +kernel
theorem d_Mo_timesOf_76 : decode prog_14_method_20_code 76 = .ok (.iload_n 1, 1) := by decide +kernel
theorem d_Mo_timesOf_77 : decode prog_14_method_20_code 77 = .ok (.imul, 1) := by decide +kernel
theorem d_Mo_timesOf_78 : decode prog_14_method_20_code 78 = .ok (.iload 5, 2) := by decide +kernel
theorem d_Mo_timesOf_80 : decode prog_14_method_20_code 80 = .ok (.iadd, 1) := by decide +kernel
theorem d_Mo_timesOf_81 : decode prog_14_method_20_code 81 = .ok (.laload, 1) := by decide +kernel
theorem d_Mo_timesOf_82 : decode prog_14_method_20_code 82 = .ok (.lreturn, 1) := by decide +kernel
theorem d_Mo_timesOf_83 : decode prog_14_method_20_code 83 = .ok (.iinc 5 1, 3) := by decide +kernel
theorem d_Mo_timesOf_86 : decode prog_14_method_20_code 86 = .ok (.goto (-83), 3) := by decide +kernel
theorem d_Mo_timesOf_89 : decode prog_14_method_20_code 89 = .ok (.lconst 0, 1) := by decide +kernel
theorem d_Mo_timesOf_90 : decode prog_14_method_20_code 90 = .ok (.lreturn, 1) := by decide +kernel
theorem d_Mo_select_0 : decode prog_14_method_28_code 0 = .ok (.aload_n 0, 1) := by decide +kernel
theorem d_Mo_select_1 : decode prog_14_method_28_code 1 = .ok (.aload_n 0, 1) := by decide +kernel
theorem d_Mo_select_2 : decode prog_14_method_28_code 2 = .ok (.iload_n 1, 1) := by decide +kernel
theorem d_Mo_select_3 : decode prog_14_method_28_code 3 = .ok (.iload_n 2, 1) := by decide +kernel
theorem d_Mo_select_4 : decode prog_14_method_28_code 4 = .ok (.invokevirtual 148, 3) := by decide +kernel
theorem d_Mo_select_7 : decode prog_14_method_28_code 7 = .ok (.ifCond .ne 7, 3) := by decide +kernel
theorem d_Mo_select_10 : decode prog_14_method_28_code 10 = .ok (.iconst 1, 1) := by decide +kernel
theorem d_Mo_select_11 : decode prog_14_method_28_code 11 = .ok (.goto 17, 3) := by decide +kernel
theorem d_Mo_select_14 : decode prog_14_method_28_code 14 = .ok (.iload_n 3, 1) := by decide +kernel
theorem d_Mo_select_15 : decode prog_14_method_28_code 15 = .ok (.ifCond .lt 8, 3) := by decide +kernel
theorem d_Mo_select_18 : decode prog_14_method_28_code 18 = .ok (.iload_n 3, 1) := by decide +kernel
theorem d_Mo_select_19 : decode prog_14_method_28_code 19 = .ok (.iconst 2, 1) := by decide +kernel
theorem d_Mo_select_20 : decode prog_14_method_28_code 20 = .ok (.if_icmp .le 7, 3) := by decide +kernel
theorem d_Mo_select_23 : decode prog_14_method_28_code 23 = .ok (.iconst 2, 1) := by decide +kernel
theorem d_Mo_select_24 : decode prog_14_method_28_code 24 = .ok (.goto 4, 3) := by decide +kernel
theorem d_Mo_select_27 : decode prog_14_method_28_code 27 = .ok (.iconst 0, 1) := by decide +kernel
theorem d_Mo_select_28 : decode prog_14_method_28_code 28 = .ok (.putfield 69, 3) := by decide +kernel
theorem d_Mo_select_31 : decode prog_14_method_28_code 31 = .ok (.aload_n 0, 1) := by decide +kernel
theorem d_Mo_select_32 : decode prog_14_method_28_code 32 = .ok (.getfield 69, 3) := by decide +kernel
theorem d_Mo_select_35 : decode prog_14_method_28_code 35 = .ok (.ifCond .le 5, 3) := by decide +kernel
theorem d_Mo_select_38 : decode prog_14_method_28_code 38 = .ok (.iconst 0, 1) := by decide +kernel
theorem d_Mo_select_39 : decode prog_14_method_28_code 39 = .ok (.ireturn, 1) := by decide +kernel
theorem d_Mo_select_40 : decode prog_14_method_28_code 40 = .ok (.aload_n 0, 1) := by decide +kernel
theorem d_Mo_select_41 : decode prog_14_method_28_code 41 = .ok (.iload_n 2, 1) := by decide +kernel
theorem d_Mo_select_42 : decode prog_14_method_28_code 42 = .ok (.iload_n 3, 1) := by decide +kernel
theorem d_Mo_select_43 : decode prog_14_method_28_code 43 = .ok (.iload 4, 2) := by decide +kernel
theorem d_Mo_select_45 : decode prog_14_method_28_code 45 = .ok (.invokevirtual 151, 3) := by decide +kernel
theorem d_Mo_select_48 : decode prog_14_method_28_code 48 = .ok (.aload_n 0, 1) := by decide +kernel
theorem d_Mo_select_49 : decode prog_14_method_28_code 49 = .ok (.iconst 1, 1) := by decide +kernel
theorem d_Mo_select_50 : decode prog_14_method_28_code 50 = .ok (.iload_n 1, 1) := by decide +kernel
theorem d_Mo_select_51 : decode prog_14_method_28_code 51 = .ok (.iconst 0, 1) := by decide +kernel
theorem d_Mo_select_52 : decode prog_14_method_28_code 52 = .ok (.aload_n 0, 1) := by decide +kernel
theorem d_Mo_select_53 : decode prog_14_method_28_code 53 = .ok (.getfield 13, 3) := by decide +kernel
theorem d_Mo_select_56 : decode prog_14_method_28_code 56 = .ok (.iload_n 1, 1) := by decide +kernel
theorem d_Mo_select_57 : decode prog_14_method_28_code 57 = .ok (.iaload, 1) := by decide +kernel
theorem d_Mo_select_58 : decode prog_14_method_28_code 58 = .ok (.iconst 3, 1) := by decide +kernel
theorem d_Mo_select_59 : decode prog_14_method_28_code 59 = .ok (.invokevirtual 154, 3) := by decide +kernel
theorem d_Mo_select_62 : decode prog_14_method_28_code 62 = .ok (.ireturn, 1) := by decide +kernel
theorem d_Mo_isColumn_0 : decode prog_14_method_25_code 0 = .ok (.aload_n 0, 1) := by decide +kernel
theorem d_Mo_isColumn_1 : decode prog_14_method_25_code 1 = .ok (.iload_n 1, 1) := by decide +kernel
theorem d_Mo_isColumn_2 : decode prog_14_method_25_code 2 = .ok (.invokevirtual 145, 3) := by decide +kernel
theorem d_Mo_isColumn_5 : decode prog_14_method_25_code 5 = .ok (.ifCond .eq 21, 3) := by decide +kernel
theorem d_Mo_isColumn_8 : decode prog_14_method_25_code 8 = .ok (.iload_n 2, 1) := by decide +kernel
theorem d_Mo_isColumn_9 : decode prog_14_method_25_code 9 = .ok (.ifCond .lt 17, 3) := by decide +kernel
theorem d_Mo_isColumn_12 : decode prog_14_method_25_code 12 = .ok (.iload_n 2, 1) := by decide +kernel
theorem d_Mo_isColumn_13 : decode prog_14_method_25_code 13 = .ok (.aload_n 0, 1) := by decide +kernel
theorem d_Mo_isColumn_14 : decode prog_14_method_25_code 14 = .ok (.getfield 13, 3) := by decide +kernel
theorem d_Mo_isColumn_17 : decode prog_14_method_25_code 17 = .ok (.iload_n 1, 1) := by decide +kernel
theorem d_Mo_isColumn_18 : decode prog_14_method_25_code 18 = .ok (.iaload, 1) := by decide +kernel
theorem d_Mo_isColumn_19 : decode prog_14_method_25_code 19 = .ok (.if_icmp .ge 7, 3) := by decide +kernel
theorem d_Mo_isColumn_22 : decode prog_14_method_25_code 22 = .ok (.iconst 1, 1) := by decide +kernel
theorem d_Mo_isColumn_23 : decode prog_14_method_25_code 23 = .ok (.goto 4, 3) := by decide +kernel
theorem d_Mo_isColumn_26 : decode prog_14_method_25_code 26 = .ok (.iconst 0, 1) := by decide +kernel
theorem d_Mo_isColumn_27 : decode prog_14_method_25_code 27 = .ok (.ireturn, 1) := by decide +kernel
theorem d_Mo_isView_0 : decode prog_14_method_24_code 0 = .ok (.iload_n 1, 1) := by decide +kernel
theorem d_Mo_isView_1 : decode prog_14_method_24_code 1 = .ok (.ifCond .lt 15, 3) := by decide +kernel
theorem d_Mo_isView_4 : decode prog_14_method_24_code 4 = .ok (.iload_n 1, 1) := by decide +kernel
theorem d_Mo_isView_5 : decode prog_14_method_24_code 5 = .ok (.aload_n 0, 1) := by decide +kernel
theorem d_Mo_isView_6 : decode prog_14_method_24_code 6 = .ok (.getfield 7, 3) := by decide +kernel
theorem d_Mo_isView_9 : decode prog_14_method_24_code 9 = .ok (.if_icmp .ge 7, 3) := by decide +kernel
theorem d_Mo_isView_12 : decode prog_14_method_24_code 12 = .ok (.iconst 1, 1) := by decide +kernel
theorem d_Mo_isView_13 : decode prog_14_method_24_code 13 = .ok (.goto 4, 3) := by decide +kernel
theorem d_Mo_isView_16 : decode prog_14_method_24_code 16 = .ok (.iconst 0, 1) := by decide +kernel
theorem d_Mo_isView_17 : decode prog_14_method_24_code 17 = .ok (.ireturn, 1) := by decide +kernel
theorem d_Mo_told_0 : decode prog_14_method_27_code 0 = .ok (.aload_n 0, 1) := by decide +kernel
theorem d_Mo_told_1 : decode prog_14_method_27_code 1 = .ok (.getfield 7, 3) := by decide +kernel
theorem d_Mo_told_4 : decode prog_14_method_27_code 4 = .ok (.bipush 12, 2) := by decide +kernel
theorem d_Mo_told_6 : decode prog_14_method_27_code 6 = .ok (.if_icmp .ge 33, 3) := by decide +kernel
theorem d_Mo_told_9 : decode prog_14_method_27_code 9 = .ok (.aload_n 0, 1) := by decide +kernel
theorem d_Mo_told_10 : decode prog_14_method_27_code 10 = .ok (.getfield 26, 3) := by decide +kernel
theorem d_Mo_told_13 : decode prog_14_method_27_code 13 = .ok (.aload_n 0, 1) := by decide +kernel
theorem d_Mo_told_14 : decode prog_14_method_27_code 14 = .ok (.getfield 7, 3) := by decide +kernel
theorem d_Mo_told_17 : decode prog_14_method_27_code 17 = .ok (.iload_n 1, 1) := by decide +kernel
theorem d_Mo_told_18 : decode prog_14_method_27_code 18 = .ok (.iastore, 1) := by decide +kernel
theorem d_Mo_told_19 : decode prog_14_method_27_code 19 = .ok (.aload_n 0, 1) := by decide +kernel
theorem d_Mo_told_20 : decode prog_14_method_27_code 20 = .ok (.getfield 29, 3) := by decide +kernel
theorem d_Mo_told_23 : decode prog_14_method_27_code 23 = .ok (.aload_n 0, 1) := by decide +kernel
theorem d_Mo_told_24 : decode prog_14_method_27_code 24 = .ok (.getfield 7, 3) := by decide +kernel
theorem d_Mo_told_27 : decode prog_14_method_27_code 27 = .ok (.iload_n 2, 1) := by decide +kernel
theorem d_Mo_told_28 : decode prog_14_method_27_code 28 = .ok (.iastore, 1) := by decide +kernel
theorem d_Mo_told_29 : decode prog_14_method_27_code 29 = .ok (.aload_n 0, 1) := by decide +kernel
theorem d_Mo_told_30 : decode prog_14_method_27_code 30 = .ok (.getfield 32, 3) := by decide +kernel
theorem d_Mo_told_33 : decode prog_14_method_27_code 33 = .ok (.aload_n 0, 1) := by decide +kernel
theorem d_Mo_told_34 : decode prog_14_method_27_code 34 = .ok (.getfield 7, 3) := by decide +kernel
theorem d_Mo_told_37 : decode prog_14_method_27_code 37 = .ok (.iload_n 3, 1) := by decide +kernel
theorem d_Mo_told_38 : decode prog_14_method_27_code 38 = .ok (.iastore, 1) := by decide +kernel
theorem d_Mo_told_39 : decode prog_14_method_27_code 39 = .ok (.return_, 1) := by decide +kernel
theorem d_Mo_make_0 : decode prog_14_method_26_code 0 = .ok (.aload_n 0, 1) := by decide +kernel
theorem d_Mo_make_1 : decode prog_14_method_26_code 1 = .ok (.getfield 7, 3) := by decide +kernel
theorem d_Mo_make_4 : decode prog_14_method_26_code 4 = .ok (.bipush 12, 2) := by decide +kernel
theorem d_Mo_make_6 : decode prog_14_method_26_code 6 = .ok (.if_icmp .ne 11, 3) := by decide +kernel
theorem d_Mo_make_9 : decode prog_14_method_26_code 9 = .ok (.aload_n 0, 1) := by decide +kernel
theorem d_Mo_make_10 : decode prog_14_method_26_code 10 = .ok (.iload 5, 2) := by decide +kernel
theorem d_Mo_make_12 : decode prog_14_method_26_code 12 = .ok (.putfield 69, 3) := by decide +kernel
theorem d_Mo_make_15 : decode prog_14_method_26_code 15 = .ok (.iconst 0, 1) := by decide +kernel
theorem d_Mo_make_16 : decode prog_14_method_26_code 16 = .ok (.ireturn, 1) := by decide +kernel
theorem d_Mo_make_17 : decode prog_14_method_26_code 17 = .ok (.aload_n 0, 1) := by decide +kernel
theorem d_Mo_make_18 : decode prog_14_method_26_code 18 = .ok (.getfield 17, 3) := by decide +kernel
theorem d_Mo_make_21 : decode prog_14_method_26_code 21 = .ok (.aload_n 0, 1) := by decide +kernel
theorem d_Mo_make_22 : decode prog_14_method_26_code 22 = .ok (.getfield 7, 3) := by decide +kernel
theorem d_Mo_make_25 : decode prog_14_method_26_code 25 = .ok (.iload_n 1, 1) := by decide +kernel
theorem d_Mo_make_26 : decode prog_14_method_26_code 26 = .ok (.iastore, 1) := by decide +kernel
theorem d_Mo_make_27 : decode prog_14_method_26_code 27 = .ok (.aload_n 0, 1) := by decide +kernel
theorem d_Mo_make_28 : decode prog_14_method_26_code 28 = .ok (.getfield 20, 3) := by decide +kernel
theorem d_Mo_make_31 : decode prog_14_method_26_code 31 = .ok (.aload_n 0, 1) := by decide +kernel
theorem d_Mo_make_32 : decode prog_14_method_26_code 32 = .ok (.getfield 7, 3) := by decide +kernel
theorem d_Mo_make_35 : decode prog_14_method_26_code 35 = .ok (.iload_n 2, 1) := by decide +kernel
theorem d_Mo_make_36 : decode prog_14_method_26_code 36 = .ok (.iastore, 1) := by decide +kernel
theorem d_Mo_make_37 : decode prog_14_method_26_code 37 = .ok (.aload_n 0, 1) := by decide +kernel
theorem d_Mo_make_38 : decode prog_14_method_26_code 38 = .ok (.getfield 23, 3) := by decide +kernel
theorem d_Mo_make_41 : decode prog_14_method_26_code 41 = .ok (.aload_n 0, 1) := by decide +kernel
theorem d_Mo_make_42 : decode prog_14_method_26_code 42 = .ok (.getfield 7, 3) := by decide +kernel
theorem d_Mo_make_45 : decode prog_14_method_26_code 45 = .ok (.iload_n 3, 1) := by decide +kernel
theorem d_Mo_make_46 : decode prog_14_method_26_code 46 = .ok (.iastore, 1) := by decide +kernel
theorem d_Mo_make_47 : decode prog_14_method_26_code 47 = .ok (.aload_n 0, 1) := by decide +kernel
theorem d_Mo_make_48 : decode prog_14_method_26_code 48 = .ok (.getfield 13, 3) := by decide +kernel
theorem d_Mo_make_51 : decode prog_14_method_26_code 51 = .ok (.aload_n 0, 1) := by decide +kernel
theorem d_Mo_make_52 : decode prog_14_method_26_code 52 = .ok (.getfield 7, 3) := by decide +kernel
theorem d_Mo_make_55 : decode prog_14_method_26_code 55 = .ok (.iload 4, 2) := by decide +kernel
theorem d_Mo_make_57 : decode prog_14_method_26_code 57 = .ok (.iastore, 1) := by decide +kernel
theorem d_Mo_make_58 : decode prog_14_method_26_code 58 = .ok (.aload_n 0, 1) := by decide +kernel
theorem d_Mo_make_59 : decode prog_14_method_26_code 59 = .ok (.getfield 35, 3) := by decide +kernel
theorem d_Mo_make_62 : decode prog_14_method_26_code 62 = .ok (.aload_n 0, 1) := by decide +kernel
theorem d_Mo_make_63 : decode prog_14_method_26_code 63 = .ok (.getfield 7, 3) := by decide +kernel
theorem d_Mo_make_66 : decode prog_14_method_26_code 66 = .ok (.iconst 0, 1) := by decide +kernel
theorem d_Mo_make_67 : decode prog_14_method_26_code 67 = .ok (.iastore, 1) := by decide +kernel
theorem d_Mo_make_68 : decode prog_14_method_26_code 68 = .ok (.aload_n 0, 1) := by decide +kernel
theorem d_Mo_make_69 : decode prog_14_method_26_code 69 = .ok (.aload_n 0, 1) := by decide +kernel
theorem d_Mo_make_70 : decode prog_14_method_26_code 70 = .ok (.getfield 7, 3) := by decide +kernel
theorem d_Mo_make_73 : decode prog_14_method_26_code 73 = .ok (.iconst 0, 1) := by decide +kernel
theorem d_Mo_make_74 : decode prog_14_method_26_code 74 = .ok (.invokevirtual 138, 3) := by decide +kernel
theorem d_Mo_make_77 : decode prog_14_method_26_code 77 = .ok (.ifCond .ne 11, 3) := by decide +kernel
theorem d_Mo_make_80 : decode prog_14_method_26_code 80 = .ok (.aload_n 0, 1) := by decide +kernel
theorem d_Mo_make_81 : decode prog_14_method_26_code 81 = .ok (.iload 5, 2) := by decide +kernel
theorem d_Mo_make_83 : decode prog_14_method_26_code 83 = .ok (.putfield 69, 3) := by decide +kernel
theorem d_Mo_make_86 : decode prog_14_method_26_code 86 = .ok (.iconst 0, 1) := by decide +kernel
theorem d_Mo_make_87 : decode prog_14_method_26_code 87 = .ok (.ireturn, 1) := by decide +kernel
theorem d_Mo_make_88 : decode prog_14_method_26_code 88 = .ok (.aload_n 0, 1) := by decide +kernel
theorem d_Mo_make_89 : decode prog_14_method_26_code 89 = .ok (.dup, 1) := by decide +kernel
theorem d_Mo_make_90 : decode prog_14_method_26_code 90 = .ok (.getfield 7, 3) := by decide +kernel
theorem d_Mo_make_93 : decode prog_14_method_26_code 93 = .ok (.iconst 1, 1) := by decide +kernel
theorem d_Mo_make_94 : decode prog_14_method_26_code 94 = .ok (.iadd, 1) := by decide +kernel
theorem d_Mo_make_95 : decode prog_14_method_26_code 95 = .ok (.putfield 7, 3) := by decide +kernel
theorem d_Mo_make_98 : decode prog_14_method_26_code 98 = .ok (.aload_n 0, 1) := by decide +kernel
theorem d_Mo_make_99 : decode prog_14_method_26_code 99 = .ok (.getfield 7, 3) := by decide +kernel
theorem d_Mo_make_102 : decode prog_14_method_26_code 102 = .ok (.iconst 1, 1) := by decide +kernel
theorem d_Mo_make_103 : decode prog_14_method_26_code 103 = .ok (.isub, 1) := by decide +kernel
theorem d_Mo_make_104 : decode prog_14_method_26_code 104 = .ok (.ireturn, 1) := by decide +kernel
theorem d_Mo_project_0 : decode prog_14_method_29_code 0 = .ok (.aload_n 0, 1) := by decide +kernel
theorem d_Mo_project_1 : decode prog_14_method_29_code 1 = .ok (.iload_n 1, 1) := by decide +kernel
theorem d_Mo_project_2 : decode prog_14_method_29_code 2 = .ok (.invokevirtual 145, 3) := by decide +kernel
theorem d_Mo_project_5 : decode prog_14_method_29_code 5 = .ok (.istore 4, 2) := by decide +kernel
theorem d_Mo_project_7 : decode prog_14_method_29_code 7 = .ok (.iconst 0, 1) := by decide +kernel
theorem d_Mo_project_8 : decode prog_14_method_29_code 8 = .ok (.istore 5, 2) := by decide +kernel
theorem d_Mo_project_10 : decode prog_14_method_29_code 10 = .ok (.iload 5, 2) := by decide +kernel
theorem d_Mo_project_12 : decode prog_14_method_29_code 12 = .ok (.iload_n 2, 1) := by decide +kernel
theorem d_Mo_project_13 : decode prog_14_method_29_code 13 = .ok (.if_icmp .ge 49, 3) := by decide +kernel
theorem d_Mo_project_16 : decode prog_14_method_29_code 16 = .ok (.iload 5, 2) := by decide +kernel
theorem d_Mo_project_18 : decode prog_14_method_29_code 18 = .ok (.iconst 4, 1) := by decide +kernel
theorem d_Mo_project_19 : decode prog_14_method_29_code 19 = .ok (.if_icmp .ge 43, 3) := by decide +kernel
theorem d_Mo_project_22 : decode prog_14_method_29_code 22 = .ok (.iload_n 2, 1) := by decide +kernel
theorem d_Mo_project_23 : decode prog_14_method_29_code 23 = .ok (.iconst 5, 1) := by decide +kernel
theorem d_Mo_project_24 : decode prog_14_method_29_code 24 = .ok (.if_icmp .ge 38, 3) := by decide +kernel
theorem d_Mo_project_27 : decode prog_14_method_29_code 27 = .ok (.iload 4, 2) := by decide +kernel
theorem d_Mo_project_29 : decode prog_14_method_29_code 29 = .ok (.ifCond .eq 24, 3) := by decide +kernel
theorem d_Mo_project_32 : decode prog_14_method_29_code 32 = .ok (.aload_n 0, 1) := by decide +kernel
theorem d_Mo_project_33 : decode prog_14_method_29_code 33 = .ok (.iload_n 1, 1) := by decide +kernel
theorem d_Mo_project_34 : decode prog_14_method_29_code 34 = .ok (.iload_n 3, 1) := by decide +kernel
theorem d_Mo_project_35 : decode prog_14_method_29_code 35 = .ok (.iconst 4, 1) := by decide +kernel
theorem d_Mo_project_36 : decode prog_14_method_29_code 36 = .ok (.iload 5, 2) := by decide +kernel
theorem d_Mo_project_38 : decode prog_14_method_29_code 38 = .ok (.imul, 1) := by decide +kernel
theorem d_Mo_project_39 : decode prog_14_method_29_code 39 = .ok (.ishr, 1) := by decide +kernel
theorem d_Mo_project_40 : decode prog_14_method_29_code 40 = .ok (.bipush 15, 2) := by decide +kernel
theorem d_Mo_project_42 : decode prog_14_method_29_code 42 = .ok (.iand, 1) := by decide +kernel
theorem d_Mo_project_43 : decode prog_14_method_29_code 43 = .ok (.invokevirtual 148, 3) := by decide +kernel
theorem d_Mo_project_46 : decode prog_14_method_29_code 46 = .ok (.ifCond .eq 7, 3) := by decide +kernel
theorem d_Mo_project_49 : decode prog_14_method_29_code 49 = .ok (.iconst 1, 1) := by decide +kernel
theorem d_Mo_project_50 : decode prog_14_method_29_code 50 = .ok (.goto 4, 3) := by decide +kernel
theorem d_Mo_project_53 : decode prog_14_method_29_code 53 = .ok (.iconst 0, 1) := by decide +kernel
theorem d_Mo_project_54 : decode prog_14_method_29_code 54 = .ok (.istore 4, 2) := by decide +kernel
theorem d_Mo_project_56 : decode prog_14_method_29_code 56 = .ok (.iinc 5 1, 3) := by decide +kernel
theorem d_Mo_project_59 : decode prog_14_method_29_code 59 = .ok (.goto (-49), 3) := by decide +kernel
theorem d_Mo_project_62 : decode prog_14_method_29_code 62 = .ok (.aload_n 0, 1) := by decide +kernel
theorem d_Mo_project_63 : decode prog_14_method_29_code 63 = .ok (.iload 4, 2) := by decide +kernel
theorem d_Mo_project_65 : decode prog_14_method_29_code 65 = .ok (.ifCond .ne 7, 3) := by decide +kernel
theorem d_Mo_project_68 : decode prog_14_method_29_code 68 = .ok (.iconst 1, 1) := by decide +kernel
theorem d_Mo_project_69 : decode prog_14_method_29_code 69 = .ok (.goto 18, 3) := by decide +kernel
theorem d_Mo_project_72 : decode prog_14_method_29_code 72 = .ok (.iload_n 2, 1) := by decide +kernel
theorem d_Mo_project_73 : decode prog_14_method_29_code 73 = .ok (.iconst 1, 1) := by decide +kernel
theorem d_Mo_project_74 : decode prog_14_method_29_code 74 = .ok (.if_icmp .lt 8, 3) := by decide +kernel
theorem d_Mo_project_77 : decode prog_14_method_29_code 77 = .ok (.iload_n 2, 1) := by decide +kernel
theorem d_Mo_project_78 : decode prog_14_method_29_code 78 = .ok (.iconst 4, 1) := by decide +kernel
theorem d_Mo_project_79 : decode prog_14_method_29_code 79 = .ok (.if_icmp .le 7, 3) := by decide +kernel
theorem d_Mo_project_82 : decode prog_14_method_29_code 82 = .ok (.iconst 2, 1) := by decide +kernel
theorem d_Mo_project_83 : decode prog_14_method_29_code 83 = .ok (.goto 4, 3) := by decide +kernel
theorem d_Mo_project_86 : decode prog_14_method_29_code 86 = .ok (.iconst 0, 1) := by decide +kernel
theorem d_Mo_project_87 : decode prog_14_method_29_code 87 = .ok (.putfield 69, 3) := by decide +kernel
theorem d_Mo_project_90 : decode prog_14_method_29_code 90 = .ok (.aload_n 0, 1) := by decide +kernel
theorem d_Mo_project_91 : decode prog_14_method_29_code 91 = .ok (.getfield 69, 3) := by decide +kernel
theorem d_Mo_project_94 : decode prog_14_method_29_code 94 = .ok (.ifCond .le 5, 3) := by decide +kernel
theorem d_Mo_project_97 : decode prog_14_method_29_code 97 = .ok (.iconst 0, 1) := by decide +kernel
theorem d_Mo_project_98 : decode prog_14_method_29_code 98 = .ok (.ireturn, 1) := by decide +kernel
theorem d_Mo_project_99 : decode prog_14_method_29_code 99 = .ok (.aload_n 0, 1) := by decide +kernel
theorem d_Mo_project_100 : decode prog_14_method_29_code 100 = .ok (.iload_n 3, 1) := by decide +kernel
theorem d_Mo_project_101 : decode prog_14_method_29_code 101 = .ok (.iconst 0, 1) := by decide +kernel
theorem d_Mo_project_102 : decode prog_14_method_29_code 102 = .ok (.iconst 0, 1) := by decide +kernel
theorem d_Mo_project_103 : decode prog_14_method_29_code 103 = .ok (.invokevirtual 151, 3) := by decide +kernel
theorem d_Mo_project_106 : decode prog_14_method_29_code 106 = .ok (.aload_n 0, 1) := by decide +kernel
theorem d_Mo_project_107 : decode prog_14_method_29_code 107 = .ok (.iconst 2, 1) := by decide +kernel
theorem d_Mo_project_108 : decode prog_14_method_29_code 108 = .ok (.iload_n 1, 1) := by decide +kernel
theorem d_Mo_project_109 : decode prog_14_method_29_code 109 = .ok (.iconst 0, 1) := by decide +kernel
theorem d_Mo_project_110 : decode prog_14_method_29_code 110 = .ok (.iload_n 2, 1) := by decide +kernel
theorem d_Mo_project_111 : decode prog_14_method_29_code 111 = .ok (.iconst 3, 1) := by decide +kernel
theorem d_Mo_project_112 : decode prog_14_method_29_code 112 = .ok (.invokevirtual 154, 3) := by decide +kernel
theorem d_Mo_project_115 : decode prog_14_method_29_code 115 = .ok (.ireturn, 1) := by decide +kernel
theorem d_Mo_join_0 : decode prog_14_method_30_code 0 = .ok (.aload_n 0, 1) := by decide +kernel
theorem d_Mo_join_1 : decode prog_14_method_30_code 1 = .ok (.aload_n 0, 1) := by decide +kernel
theorem d_Mo_join_2 : decode prog_14_method_30_code 2 = .ok (.iload_n 1, 1) := by decide +kernel
theorem d_Mo_join_3 : decode prog_14_method_30_code 3 = .ok (.iload_n 3, 1) := by decide +kernel
theorem d_Mo_join_4 : decode prog_14_method_30_code 4 = .ok (.invokevirtual 148, 3) := by decide +kernel
theorem d_Mo_join_7 : decode prog_14_method_30_code 7 = .ok (.ifCond .eq 13, 3) := by decide +kernel
theorem d_Mo_join_10 : decode prog_14_method_30_code 10 = .ok (.aload_n 0, 1) := by decide +kernel
theorem d_Mo_join_11 : decode prog_14_method_30_code 11 = .ok (.iload_n 2, 1) := by decide +kernel
theorem d_Mo_join_12 : decode prog_14_method_30_code 12 = .ok (.iload 4, 2) := by decide +kernel
theorem d_Mo_join_14 : decode prog_14_method_30_code 14 = .ok (.invokevirtual 148, 3) := by decide +kernel
theorem d_Mo_join_17 : decode prog_14_method_30_code 17 = .ok (.ifCond .ne 7, 3) := by decide +kernel
theorem d_Mo_join_20 : decode prog_14_method_30_code 20 = .ok (.iconst 1, 1) := by decide +kernel
theorem d_Mo_join_21 : decode prog_14_method_30_code 21 = .ok (.goto 25, 3) := by decide +kernel
theorem d_Mo_join_24 : decode prog_14_method_30_code 24 = .ok (.aload_n 0, 1) := by decide +kernel
theorem d_Mo_join_25 : decode prog_14_method_30_code 25 = .ok (.getfield 13, 3) := by decide +kernel
theorem d_Mo_join_28 : decode prog_14_method_30_code 28 = .ok (.iload_n 1, 1) := by decide +kernel
theorem d_Mo_join_29 : decode prog_14_method_30_code 29 = .ok (.iaload, 1) := by decide +kernel
theorem d_Mo_join_30 : decode prog_14_method_30_code 30 = .ok (.aload_n 0, 1) := by decide +kernel
theorem d_Mo_join_31 : decode prog_14_method_30_code 31 = .ok (.getfield 13, 3) := by decide +kernel
theorem d_Mo_join_34 : decode prog_14_method_30_code 34 = .ok (.iload_n 2, 1) := by decide +kernel
theorem d_Mo_join_35 : decode prog_14_method_30_code 35 = .ok (.iaload, 1) := by decide +kernel
theorem d_Mo_join_36 : decode prog_14_method_30_code 36 = .ok (.iadd, 1) := by decide +kernel
theorem d_Mo_join_37 : decode prog_14_method_30_code 37 = .ok (.iconst 4, 1) := by decide +kernel
theorem d_Mo_join_38 : decode prog_14_method_30_code 38 = .ok (.if_icmp .le 7, 3) := by decide +kernel
theorem d_Mo_join_41 : decode prog_14_method_30_code 41 = .ok (.iconst 2, 1) := by decide +kernel
theorem d_Mo_join_42 : decode prog_14_method_30_code 42 = .ok (.goto 4, 3) := by decide +kernel
theorem d_Mo_join_45 : decode prog_14_method_30_code 45 = .ok (.iconst 0, 1) := by decide +kernel
theorem d_Mo_join_46 : decode prog_14_method_30_code 46 = .ok (.putfield 69, 3) := by decide +kernel
theorem d_Mo_join_49 : decode prog_14_method_30_code 49 = .ok (.aload_n 0, 1) := by decide +kernel
theorem d_Mo_join_50 : decode prog_14_method_30_code 50 = .ok (.getfield 69, 3) := by decide +kernel
theorem d_Mo_join_53 : decode prog_14_method_30_code 53 = .ok (.ifCond .le 5, 3) := by decide +kernel
theorem d_Mo_join_56 : decode prog_14_method_30_code 56 = .ok (.iconst 0, 1) := by decide +kernel
theorem d_Mo_join_57 : decode prog_14_method_30_code 57 = .ok (.ireturn, 1) := by decide +kernel
theorem d_Mo_join_58 : decode prog_14_method_30_code 58 = .ok (.aload_n 0, 1) := by decide +kernel
theorem d_Mo_join_59 : decode prog_14_method_30_code 59 = .ok (.iload_n 3, 1) := by decide +kernel
theorem d_Mo_join_60 : decode prog_14_method_30_code 60 = .ok (.iload 4, 2) := by decide +kernel
theorem d_Mo_join_62 : decode prog_14_method_30_code 62 = .ok (.iconst 0, 1) := by decide +kernel
theorem d_Mo_join_63 : decode prog_14_method_30_code 63 = .ok (.invokevirtual 151, 3) := by decide +kernel
theorem d_Mo_join_66 : decode prog_14_method_30_code 66 = .ok (.aload_n 0, 1) := by decide +kernel
theorem d_Mo_join_67 : decode prog_14_method_30_code 67 = .ok (.iconst 3, 1) := by decide +kernel
theorem d_Mo_join_68 : decode prog_14_method_30_code 68 = .ok (.iload_n 1, 1) := by decide +kernel
theorem d_Mo_join_69 : decode prog_14_method_30_code 69 = .ok (.iload_n 2, 1) := by decide +kernel
theorem d_Mo_join_70 : decode prog_14_method_30_code 70 = .ok (.aload_n 0, 1) := by decide +kernel
theorem d_Mo_join_71 : decode prog_14_method_30_code 71 = .ok (.getfield 13, 3) := by decide +kernel
theorem d_Mo_join_74 : decode prog_14_method_30_code 74 = .ok (.iload_n 1, 1) := by decide +kernel
theorem d_Mo_join_75 : decode prog_14_method_30_code 75 = .ok (.iaload, 1) := by decide +kernel
theorem d_Mo_join_76 : decode prog_14_method_30_code 76 = .ok (.aload_n 0, 1) := by decide +kernel
theorem d_Mo_join_77 : decode prog_14_method_30_code 77 = .ok (.getfield 13, 3) := by decide +kernel
theorem d_Mo_join_80 : decode prog_14_method_30_code 80 = .ok (.iload_n 2, 1) := by decide +kernel
theorem d_Mo_join_81 : decode prog_14_method_30_code 81 = .ok (.iaload, 1) := by decide +kernel
theorem d_Mo_join_82 : decode prog_14_method_30_code 82 = .ok (.iadd, 1) := by decide +kernel
theorem d_Mo_join_83 : decode prog_14_method_30_code 83 = .ok (.iconst 3, 1) := by decide +kernel
theorem d_Mo_join_84 : decode prog_14_method_30_code 84 = .ok (.invokevirtual 154, 3) := by decide +kernel
theorem d_Mo_join_87 : decode prog_14_method_30_code 87 = .ok (.ireturn, 1) := by decide +kernel
theorem d_Mo_union_0 : decode prog_14_method_31_code 0 = .ok (.aload_n 0, 1) := by decide +kernel
theorem d_Mo_union_1 : decode prog_14_method_31_code 1 = .ok (.aload_n 0, 1) := by decide +kernel
theorem d_Mo_union_2 : decode prog_14_method_31_code 2 = .ok (.iload_n 1, 1) := by decide +kernel
theorem d_Mo_union_3 : decode prog_14_method_31_code 3 = .ok (.invokevirtual 145, 3) := by decide +kernel
theorem d_Mo_union_6 : decode prog_14_method_31_code 6 = .ok (.ifCond .eq 11, 3) := by decide +kernel
theorem d_Mo_union_9 : decode prog_14_method_31_code 9 = .ok (.aload_n 0, 1) := by decide +kernel
theorem d_Mo_union_10 : decode prog_14_method_31_code 10 = .ok (.iload_n 2, 1) := by decide +kernel
theorem d_Mo_union_11 : decode prog_14_method_31_code 11 = .ok (.invokevirtual 145, 3) := by decide +kernel
theorem d_Mo_union_14 : decode prog_14_method_31_code 14 = .ok (.ifCond .ne 7, 3) := by decide +kernel
theorem d_Mo_union_17 : decode prog_14_method_31_code 17 = .ok (.iconst 1, 1) := by decide +kernel
theorem d_Mo_union_18 : decode prog_14_method_31_code 18 = .ok (.goto 23, 3) := by decide +kernel
theorem d_Mo_union_21 : decode prog_14_method_31_code 21 = .ok (.aload_n 0, 1) := by decide +kernel
theorem d_Mo_union_22 : decode prog_14_method_31_code 22 = .ok (.getfield 13, 3) := by decide +kernel
theorem d_Mo_union_25 : decode prog_14_method_31_code 25 = .ok (.iload_n 1, 1) := by decide +kernel
theorem d_Mo_union_26 : decode prog_14_method_31_code 26 = .ok (.iaload, 1) := by decide +kernel
theorem d_Mo_union_27 : decode prog_14_method_31_code 27 = .ok (.aload_n 0, 1) := by decide +kernel
theorem d_Mo_union_28 : decode prog_14_method_31_code 28 = .ok (.getfield 13, 3) := by decide +kernel
theorem d_Mo_union_31 : decode prog_14_method_31_code 31 = .ok (.iload_n 2, 1) := by decide +kernel
theorem d_Mo_union_32 : decode prog_14_method_31_code 32 = .ok (.iaload, 1) := by decide +kernel
theorem d_Mo_union_33 : decode prog_14_method_31_code 33 = .ok (.if_icmp .eq 7, 3) := by decide +kernel
theorem d_Mo_union_36 : decode prog_14_method_31_code 36 = .ok (.iconst 2, 1) := by decide +kernel
theorem d_Mo_union_37 : decode prog_14_method_31_code 37 = .ok (.goto 4, 3) := by decide +kernel
theorem d_Mo_union_40 : decode prog_14_method_31_code 40 = .ok (.iconst 0, 1) := by decide +kernel
theorem d_Mo_union_41 : decode prog_14_method_31_code 41 = .ok (.putfield 69, 3) := by decide +kernel
theorem d_Mo_union_44 : decode prog_14_method_31_code 44 = .ok (.aload_n 0, 1) := by decide +kernel
theorem d_Mo_union_45 : decode prog_14_method_31_code 45 = .ok (.getfield 69, 3) := by decide +kernel
theorem d_Mo_union_48 : decode prog_14_method_31_code 48 = .ok (.ifCond .le 5, 3) := by decide +kernel
theorem d_Mo_union_51 : decode prog_14_method_31_code 51 = .ok (.iconst 0, 1) := by decide +kernel
theorem d_Mo_union_52 : decode prog_14_method_31_code 52 = .ok (.ireturn, 1) := by decide +kernel
theorem d_Mo_union_53 : decode prog_14_method_31_code 53 = .ok (.aload_n 0, 1) := by decide +kernel
theorem d_Mo_union_54 : decode prog_14_method_31_code 54 = .ok (.iconst 4, 1) := by decide +kernel
theorem d_Mo_union_55 : decode prog_14_method_31_code 55 = .ok (.iload_n 1, 1) := by decide +kernel
theorem d_Mo_union_56 : decode prog_14_method_31_code 56 = .ok (.iload_n 2, 1) := by decide +kernel
theorem d_Mo_union_57 : decode prog_14_method_31_code 57 = .ok (.aload_n 0, 1) := by decide +kernel
theorem d_Mo_union_58 : decode prog_14_method_31_code 58 = .ok (.getfield 13, 3) := by decide +kernel
theorem d_Mo_union_61 : decode prog_14_method_31_code 61 = .ok (.iload_n 1, 1) := by decide +kernel
theorem d_Mo_union_62 : decode prog_14_method_31_code 62 = .ok (.iaload, 1) := by decide +kernel
theorem d_Mo_union_63 : decode prog_14_method_31_code 63 = .ok (.iconst 3, 1) := by decide +kernel
theorem d_Mo_union_64 : decode prog_14_method_31_code 64 = .ok (.invokevirtual 154, 3) := by decide +kernel
theorem d_Mo_union_67 : decode prog_14_method_31_code 67 = .ok (.ireturn, 1) := by decide +kernel
theorem d_Mo_group_0 : decode prog_14_method_32_code 0 = .ok (.aload_n 0, 1) := by decide +kernel
theorem d_Mo_group_1 : decode prog_14_method_32_code 1 = .ok (.aload_n 0, 1) := by decide +kernel
theorem d_Mo_group_2 : decode prog_14_method_32_code 2 = .ok (.iload_n 1, 1) := by decide +kernel
theorem d_Mo_group_3 : decode prog_14_method_32_code 3 = .ok (.iload_n 3, 1) := by decide +kernel
theorem d_Mo_group_4 : decode prog_14_method_32_code 4 = .ok (.invokevirtual 148, 3) := by decide +kernel
theorem d_Mo_group_7 : decode prog_14_method_32_code 7 = .ok (.ifCond .eq 13, 3) := by decide +kernel
theorem d_Mo_group_10 : decode prog_14_method_32_code 10 = .ok (.aload_n 0, 1) := by decide +kernel
theorem d_Mo_group_11 : decode prog_14_method_32_code 11 = .ok (.iload_n 1, 1) := by decide +kernel
theorem d_Mo_group_12 : decode prog_14_method_32_code 12 = .ok (.iload 4, 2) := by decide +kernel
theorem d_Mo_group_14 : decode prog_14_method_32_code 14 = .ok (.invokevirtual 148, 3) := by decide +kernel
theorem d_Mo_group_17 : decode prog_14_method_32_code 17 = .ok (.ifCond .ne 7, 3) := by decide +kernel
theorem d_Mo_group_20 : decode prog_14_method_32_code 20 = .ok (.iconst 1, 1) := by decide +kernel
theorem d_Mo_group_21 : decode prog_14_method_32_code 21 = .ok (.goto 17, 3) := by decide +kernel
theorem d_Mo_group_24 : decode prog_14_method_32_code 24 = .ok (.iload_n 2, 1) := by decide +kernel
theorem d_Mo_group_25 : decode prog_14_method_32_code 25 = .ok (.ifCond .lt 8, 3) := by decide +kernel
theorem d_Mo_group_28 : decode prog_14_method_32_code 28 = .ok (.iload_n 2, 1) := by decide +kernel
theorem d_Mo_group_29 : decode prog_14_method_32_code 29 = .ok (.iconst 2, 1) := by decide +kernel
theorem d_Mo_group_30 : decode prog_14_method_32_code 30 = .ok (.if_icmp .le 7, 3) := by decide +kernel
theorem d_Mo_group_33 : decode prog_14_method_32_code 33 = .ok (.iconst 2, 1) := by decide +kernel
theorem d_Mo_group_34 : decode prog_14_method_32_code 34 = .ok (.goto 4, 3) := by decide +kernel
theorem d_Mo_group_37 : decode prog_14_method_32_code 37 = .ok (.iconst 0, 1) := by decide +kernel
theorem d_Mo_group_38 : decode prog_14_method_32_code 38 = .ok (.putfield 69, 3) := by decide +kernel
theorem d_Mo_group_41 : decode prog_14_method_32_code 41 = .ok (.aload_n 0, 1) := by decide +kernel
theorem d_Mo_group_42 : decode prog_14_method_32_code 42 = .ok (.getfield 69, 3) := by decide +kernel
theorem d_Mo_group_45 : decode prog_14_method_32_code 45 = .ok (.ifCond .le 5, 3) := by decide +kernel
theorem d_Mo_group_48 : decode prog_14_method_32_code 48 = .ok (.iconst 0, 1) := by decide +kernel
theorem d_Mo_group_49 : decode prog_14_method_32_code 49 = .ok (.ireturn, 1) := by decide +kernel
theorem d_Mo_group_50 : decode prog_14_method_32_code 50 = .ok (.aload_n 0, 1) := by decide +kernel
theorem d_Mo_group_51 : decode prog_14_method_32_code 51 = .ok (.iload_n 3, 1) := by decide +kernel
theorem d_Mo_group_52 : decode prog_14_method_32_code 52 = .ok (.iload 4, 2) := by decide +kernel
theorem d_Mo_group_54 : decode prog_14_method_32_code 54 = .ok (.iconst 0, 1) := by decide +kernel
theorem d_Mo_group_55 : decode prog_14_method_32_code 55 = .ok (.invokevirtual 151, 3) := by decide +kernel
theorem d_Mo_group_58 : decode prog_14_method_32_code 58 = .ok (.aload_n 0, 1) := by decide +kernel
theorem d_Mo_group_59 : decode prog_14_method_32_code 59 = .ok (.iconst 5, 1) := by decide +kernel
theorem d_Mo_group_60 : decode prog_14_method_32_code 60 = .ok (.iload_n 2, 1) := by decide +kernel
theorem d_Mo_group_61 : decode prog_14_method_32_code 61 = .ok (.iadd, 1) := by decide +kernel
theorem d_Mo_group_62 : decode prog_14_method_32_code 62 = .ok (.iload_n 1, 1) := by decide +kernel
theorem d_Mo_group_63 : decode prog_14_method_32_code 63 = .ok (.iconst 0, 1) := by decide +kernel
theorem d_Mo_group_64 : decode prog_14_method_32_code 64 = .ok (.iconst 2, 1) := by decide +kernel
theorem d_Mo_group_65 : decode prog_14_method_32_code 65 = .ok (.iconst 3, 1) := by decide +kernel
theorem d_Mo_group_66 : decode prog_14_method_32_code 66 = .ok (.invokevirtual 154, 3) := by decide +kernel
theorem d_Mo_group_69 : decode prog_14_method_32_code 69 = .ok (.ireturn, 1) := by decide +kernel
theorem d_Mo_distinct_0 : decode prog_14_method_33_code 0 = .ok (.aload_n 0, 1) := by decide +kernel
theorem d_Mo_distinct_1 : decode prog_14_method_33_code 1 = .ok (.aload_n 0, 1) := by decide +kernel
theorem d_Mo_distinct_2 : decode prog_14_method_33_code 2 = .ok (.iload_n 1, 1) := by decide +kernel
theorem d_Mo_distinct_3 : decode prog_14_method_33_code 3 = .ok (.invokevirtual 145, 3) := by decide +kernel
theorem d_Mo_distinct_6 : decode prog_14_method_33_code 6 = .ok (.ifCond .eq 7, 3) := by decide +kernel
theorem d_Mo_distinct_9 : decode prog_14_method_33_code 9 = .ok (.iconst 0, 1) := by decide +kernel
theorem d_Mo_distinct_10 : decode prog_14_method_33_code 10 = .ok (.goto 4, 3) := by decide +kernel
theorem d_Mo_distinct_13 : decode prog_14_method_33_code 13 = .ok (.iconst 1, 1) := by decide +kernel
theorem d_Mo_distinct_14 : decode prog_14_method_33_code 14 = .ok (.putfield 69, 3) := by decide +kernel
theorem d_Mo_distinct_17 : decode prog_14_method_33_code 17 = .ok (.aload_n 0, 1) := by decide +kernel
theorem d_Mo_distinct_18 : decode prog_14_method_33_code 18 = .ok (.getfield 69, 3) := by decide +kernel
theorem d_Mo_distinct_21 : decode prog_14_method_33_code 21 = .ok (.ifCond .le 5, 3) := by decide +kernel
theorem d_Mo_distinct_24 : decode prog_14_method_33_code 24 = .ok (.iconst 0, 1) := by decide +kernel
theorem d_Mo_distinct_25 : decode prog_14_method_33_code 25 = .ok (.ireturn, 1) := by decide +kernel
theorem d_Mo_distinct_26 : decode prog_14_method_33_code 26 = .ok (.aload_n 0, 1) := by decide +kernel
theorem d_Mo_distinct_27 : decode prog_14_method_33_code 27 = .ok (.bipush 8, 2) := by decide +kernel
theorem d_Mo_distinct_29 : decode prog_14_method_33_code 29 = .ok (.iload_n 1, 1) := by decide +kernel
theorem d_Mo_distinct_30 : decode prog_14_method_33_code 30 = .ok (.iconst 0, 1) := by decide +kernel
theorem d_Mo_distinct_31 : decode prog_14_method_33_code 31 = .ok (.aload_n 0, 1) := by decide +kernel
theorem d_Mo_distinct_32 : decode prog_14_method_33_code 32 = .ok (.getfield 13, 3) := by decide +kernel
theorem d_Mo_distinct_35 : decode prog_14_method_33_code 35 = .ok (.iload_n 1, 1) := by decide +kernel
theorem d_Mo_distinct_36 : decode prog_14_method_33_code 36 = .ok (.iaload, 1) := by decide +kernel
theorem d_Mo_distinct_37 : decode prog_14_method_33_code 37 = .ok (.iconst 2, 1) := by decide +kernel
theorem d_Mo_distinct_38 : decode prog_14_method_33_code 38 = .ok (.invokevirtual 154, 3) := by decide +kernel
theorem d_Mo_distinct_41 : decode prog_14_method_33_code 41 = .ok (.ireturn, 1) := by decide +kernel
theorem d_Mo_drop_0 : decode prog_14_method_34_code 0 = .ok (.aload_n 0, 1) := by decide +kernel
theorem d_Mo_drop_1 : decode prog_14_method_34_code 1 = .ok (.aload_n 0, 1) := by decide +kernel
theorem d_Mo_drop_2 : decode prog_14_method_34_code 2 = .ok (.getfield 7, 3) := by decide +kernel
theorem d_Mo_drop_5 : decode prog_14_method_34_code 5 = .ok (.iconst 3, 1) := by decide +kernel
theorem d_Mo_drop_6 : decode prog_14_method_34_code 6 = .ok (.if_icmp .ne 7, 3) := by decide +kernel
theorem d_Mo_drop_9 : decode prog_14_method_34_code 9 = .ok (.iconst 1, 1) := by decide +kernel
theorem d_Mo_drop_10 : decode prog_14_method_34_code 10 = .ok (.goto 4, 3) := by decide +kernel
theorem d_Mo_drop_13 : decode prog_14_method_34_code 13 = .ok (.iconst 0, 1) := by decide +kernel
theorem d_Mo_drop_14 : decode prog_14_method_34_code 14 = .ok (.putfield 69, 3) := by decide +kernel
theorem d_Mo_drop_17 : decode prog_14_method_34_code 17 = .ok (.aload_n 0, 1) := by decide +kernel
theorem d_Mo_drop_18 : decode prog_14_method_34_code 18 = .ok (.getfield 69, 3) := by decide +kernel
theorem d_Mo_drop_21 : decode prog_14_method_34_code 21 = .ok (.ifCond .le 5, 3) := by decide +kernel
theorem d_Mo_drop_24 : decode prog_14_method_34_code 24 = .ok (.iconst 0, 1) := by decide +kernel
theorem d_Mo_drop_25 : decode prog_14_method_34_code 25 = .ok (.ireturn, 1) := by decide +kernel
theorem d_Mo_drop_26 : decode prog_14_method_34_code 26 = .ok (.aload_n 0, 1) := by decide +kernel
theorem d_Mo_drop_27 : decode prog_14_method_34_code 27 = .ok (.dup, 1) := by decide +kernel
theorem d_Mo_drop_28 : decode prog_14_method_34_code 28 = .ok (.getfield 7, 3) := by decide +kernel
theorem d_Mo_drop_31 : decode prog_14_method_34_code 31 = .ok (.iconst 1, 1) := by decide +kernel
theorem d_Mo_drop_32 : decode prog_14_method_34_code 32 = .ok (.isub, 1) := by decide +kernel
theorem d_Mo_drop_33 : decode prog_14_method_34_code 33 = .ok (.putfield 7, 3) := by decide +kernel
theorem d_Mo_drop_36 : decode prog_14_method_34_code 36 = .ok (.aload_n 0, 1) := by decide +kernel
theorem d_Mo_drop_37 : decode prog_14_method_34_code 37 = .ok (.getfield 7, 3) := by decide +kernel
theorem d_Mo_drop_40 : decode prog_14_method_34_code 40 = .ok (.ireturn, 1) := by decide +kernel
theorem d_Mo_width_0 : decode prog_14_method_35_code 0 = .ok (.aload_n 0, 1) := by decide +kernel
theorem d_Mo_width_1 : decode prog_14_method_35_code 1 = .ok (.aload_n 0, 1) := by decide +kernel
theorem d_Mo_width_2 : decode prog_14_method_35_code 2 = .ok (.iload_n 1, 1) := by decide +kernel
theorem d_Mo_width_3 : decode prog_14_method_35_code 3 = .ok (.invokevirtual 145, 3) := by decide +kernel
theorem d_Mo_width_6 : decode prog_14_method_35_code 6 = .ok (.ifCond .eq 7, 3) := by decide +kernel
theorem d_Mo_width_9 : decode prog_14_method_35_code 9 = .ok (.iconst 0, 1) := by decide +kernel
theorem d_Mo_width_10 : decode prog_14_method_35_code 10 = .ok (.goto 4, 3) := by decide +kernel
theorem d_Mo_width_13 : decode prog_14_method_35_code 13 = .ok (.iconst 1, 1) := by decide +kernel
theorem d_Mo_width_14 : decode prog_14_method_35_code 14 = .ok (.putfield 69, 3) := by decide +kernel
theorem d_Mo_width_17 : decode prog_14_method_35_code 17 = .ok (.aload_n 0, 1) := by decide +kernel
theorem d_Mo_width_18 : decode prog_14_method_35_code 18 = .ok (.getfield 69, 3) := by decide +kernel
theorem d_Mo_width_21 : decode prog_14_method_35_code 21 = .ok (.ifCond .le 7, 3) := by decide +kernel
theorem d_Mo_width_24 : decode prog_14_method_35_code 24 = .ok (.iconst 0, 1) := by decide +kernel
theorem d_Mo_width_25 : decode prog_14_method_35_code 25 = .ok (.goto 9, 3) := by decide +kernel
theorem d_Mo_width_28 : decode prog_14_method_35_code 28 = .ok (.aload_n 0, 1) := by decide +kernel
theorem d_Mo_width_29 : decode prog_14_method_35_code 29 = .ok (.getfield 13, 3) := by decide +kernel
theorem d_Mo_width_32 : decode prog_14_method_35_code 32 = .ok (.iload_n 1, 1) := by decide +kernel
theorem d_Mo_width_33 : decode prog_14_method_35_code 33 = .ok (.iaload, 1) := by decide +kernel
theorem d_Mo_width_34 : decode prog_14_method_35_code 34 = .ok (.ireturn, 1) := by decide +kernel
theorem d_Mo_rows_0 : decode prog_14_method_36_code 0 = .ok (.aload_n 0, 1) := by decide +kernel
theorem d_Mo_rows_1 : decode prog_14_method_36_code 1 = .ok (.aload_n 0, 1) := by decide +kernel
theorem d_Mo_rows_2 : decode prog_14_method_36_code 2 = .ok (.iload_n 1, 1) := by decide +kernel
theorem d_Mo_rows_3 : decode prog_14_method_36_code 3 = .ok (.invokevirtual 145, 3) := by decide +kernel
theorem d_Mo_rows_6 : decode prog_14_method_36_code 6 = .ok (.ifCond .eq 7, 3) := by decide +kernel
theorem d_Mo_rows_9 : decode prog_14_method_36_code 9 = .ok (.iconst 0, 1) := by decide +kernel
theorem d_Mo_rows_10 : decode prog_14_method_36_code 10 = .ok (.goto 4, 3) := by decide +kernel
theorem d_Mo_rows_13 : decode prog_14_method_36_code 13 = .ok (.iconst 1, 1) := by decide +kernel
theorem d_Mo_rows_14 : decode prog_14_method_36_code 14 = .ok (.putfield 69, 3) := by decide +kernel
theorem d_Mo_rows_17 : decode prog_14_method_36_code 17 = .ok (.aload_n 0, 1) := by decide +kernel
theorem d_Mo_rows_18 : decode prog_14_method_36_code 18 = .ok (.getfield 69, 3) := by decide +kernel
theorem d_Mo_rows_21 : decode prog_14_method_36_code 21 = .ok (.ifCond .le 7, 3) := by decide +kernel
theorem d_Mo_rows_24 : decode prog_14_method_36_code 24 = .ok (.iconst 0, 1) := by decide +kernel
theorem d_Mo_rows_25 : decode prog_14_method_36_code 25 = .ok (.goto 9, 3) := by decide +kernel
theorem d_Mo_rows_28 : decode prog_14_method_36_code 28 = .ok (.aload_n 0, 1) := by decide +kernel
theorem d_Mo_rows_29 : decode prog_14_method_36_code 29 = .ok (.getfield 38, 3) := by decide +kernel
theorem d_Mo_rows_32 : decode prog_14_method_36_code 32 = .ok (.iload_n 1, 1) := by decide +kernel
theorem d_Mo_rows_33 : decode prog_14_method_36_code 33 = .ok (.iaload, 1) := by decide +kernel
theorem d_Mo_rows_34 : decode prog_14_method_36_code 34 = .ok (.ireturn, 1) := by decide +kernel
theorem d_Mo_cell_0 : decode prog_14_method_37_code 0 = .ok (.aload_n 0, 1) := by decide +kernel
theorem d_Mo_cell_1 : decode prog_14_method_37_code 1 = .ok (.aload_n 0, 1) := by decide +kernel
theorem d_Mo_cell_2 : decode prog_14_method_37_code 2 = .ok (.iload_n 1, 1) := by decide +kernel
theorem d_Mo_cell_3 : decode prog_14_method_37_code 3 = .ok (.iload_n 3, 1) := by decide +kernel
theorem d_Mo_cell_4 : decode prog_14_method_37_code 4 = .ok (.invokevirtual 148, 3) := by decide +kernel
theorem d_Mo_cell_7 : decode prog_14_method_37_code 7 = .ok (.ifCond .ne 7, 3) := by decide +kernel
theorem d_Mo_cell_10 : decode prog_14_method_37_code 10 = .ok (.iconst 1, 1) := by decide +kernel
theorem d_Mo_cell_11 : decode prog_14_method_37_code 11 = .ok (.goto 22, 3) := by decide +kernel
theorem d_Mo_cell_14 : decode prog_14_method_37_code 14 = .ok (.iload_n 2, 1) := by decide +kernel
theorem d_Mo_cell_15 : decode prog_14_method_37_code 15 = .ok (.ifCond .lt 13, 3) := by decide +kernel
theorem d_Mo_cell_18 : decode prog_14_method_37_code 18 = .ok (.iload_n 2, 1) := by decide +kernel
theorem d_Mo_cell_19 : decode prog_14_method_37_code 19 = .ok (.aload_n 0, 1) := by decide +kernel
theorem d_Mo_cell_20 : decode prog_14_method_37_code 20 = .ok (.getfield 38, 3) := by decide +kernel
theorem d_Mo_cell_23 : decode prog_14_method_37_code 23 = .ok (.iload_n 1, 1) := by decide +kernel
theorem d_Mo_cell_24 : decode prog_14_method_37_code 24 = .ok (.iaload, 1) := by decide +kernel
theorem d_Mo_cell_25 : decode prog_14_method_37_code 25 = .ok (.if_icmp .lt 7, 3) := by decide +kernel
theorem d_Mo_cell_28 : decode prog_14_method_37_code 28 = .ok (.iconst 2, 1) := by decide +kernel
theorem d_Mo_cell_29 : decode prog_14_method_37_code 29 = .ok (.goto 4, 3) := by decide +kernel
theorem d_Mo_cell_32 : decode prog_14_method_37_code 32 = .ok (.iconst 0, 1) := by decide +kernel
theorem d_Mo_cell_33 : decode prog_14_method_37_code 33 = .ok (.putfield 69, 3) := by decide +kernel
theorem d_Mo_cell_36 : decode prog_14_method_37_code 36 = .ok (.aload_n 0, 1) := by decide +kernel
theorem d_Mo_cell_37 : decode prog_14_method_37_code 37 = .ok (.getfield 69, 3) := by decide +kernel
theorem d_Mo_cell_40 : decode prog_14_method_37_code 40 = .ok (.ifCond .le 7, 3) := by decide +kernel
theorem d_Mo_cell_43 : decode prog_14_method_37_code 43 = .ok (.iconst 0, 1) := by decide +kernel
theorem d_Mo_cell_44 : decode prog_14_method_37_code 44 = .ok (.goto 10, 3) := by decide +kernel
theorem d_Mo_cell_47 : decode prog_14_method_37_code 47 = .ok (.aload_n 0, 1) := by decide +kernel
theorem d_Mo_cell_48 : decode prog_14_method_37_code 48 = .ok (.iload_n 1, 1) := by decide +kernel
theorem d_Mo_cell_49 : decode prog_14_method_37_code 49 = .ok (.iload_n 2, 1) := by decide +kernel
theorem d_Mo_cell_50 : decode prog_14_method_37_code 50 = .ok (.iload_n 3, 1) := by decide +kernel
theorem d_Mo_cell_51 : decode prog_14_method_37_code 51 = .ok (.invokevirtual 83, 3) := by decide +kernel
theorem d_Mo_cell_54 : decode prog_14_method_37_code 54 = .ok (.ireturn, 1) := by decide +kernel
theorem d_Mo_times_0 : decode prog_14_method_38_code 0 = .ok (.aload_n 0, 1) := by decide +kernel
theorem d_Mo_times_1 : decode prog_14_method_38_code 1 = .ok (.aload_n 0, 1) := by decide +kernel
theorem d_Mo_times_2 : decode prog_14_method_38_code 2 = .ok (.iload_n 1, 1) := by decide +kernel
theorem d_Mo_times_3 : decode prog_14_method_38_code 3 = .ok (.invokevirtual 145, 3) := by decide +kernel
theorem d_Mo_times_6 : decode prog_14_method_38_code 6 = .ok (.ifCond .ne 7, 3) := by decide +kernel
theorem d_Mo_times_9 : decode prog_14_method_38_code 9 = .ok (.iconst 1, 1) := by decide +kernel
theorem d_Mo_times_10 : decode prog_14_method_38_code 10 = .ok (.goto 22, 3) := by decide +kernel
theorem d_Mo_times_13 : decode prog_14_method_38_code 13 = .ok (.iload_n 2, 1) := by decide +kernel
theorem d_Mo_times_14 : decode prog_14_method_38_code 14 = .ok (.ifCond .lt 13, 3) := by decide +kernel
theorem d_Mo_times_17 : decode prog_14_method_38_code 17 = .ok (.iload_n 2, 1) := by decide +kernel
theorem d_Mo_times_18 : decode prog_14_method_38_code 18 = .ok (.aload_n 0, 1) := by decide +kernel
theorem d_Mo_times_19 : decode prog_14_method_38_code 19 = .ok (.getfield 38, 3) := by decide +kernel
theorem d_Mo_times_22 : decode prog_14_method_38_code 22 = .ok (.iload_n 1, 1) := by decide +kernel
theorem d_Mo_times_23 : decode prog_14_method_38_code 23 = .ok (.iaload, 1) := by decide +kernel
theorem d_Mo_times_24 : decode prog_14_method_38_code 24 = .ok (.if_icmp .lt 7, 3) := by decide +kernel
theorem d_Mo_times_27 : decode prog_14_method_38_code 27 = .ok (.iconst 2, 1) := by decide +kernel
theorem d_Mo_times_28 : decode prog_14_method_38_code 28 = .ok (.goto 4, 3) := by decide +kernel
theorem d_Mo_times_31 : decode prog_14_method_38_code 31 = .ok (.iconst 0, 1) := by decide +kernel
theorem d_Mo_times_32 : decode prog_14_method_38_code 32 = .ok (.putfield 69, 3) := by decide +kernel
theorem d_Mo_times_35 : decode prog_14_method_38_code 35 = .ok (.aload_n 0, 1) := by decide +kernel
theorem d_Mo_times_36 : decode prog_14_method_38_code 36 = .ok (.getfield 69, 3) := by decide +kernel
theorem d_Mo_times_39 : decode prog_14_method_38_code 39 = .ok (.ifCond .le 7, 3) := by decide +kernel
theorem d_Mo_times_42 : decode prog_14_method_38_code 42 = .ok (.lconst 0, 1) := by decide +kernel
theorem d_Mo_times_43 : decode prog_14_method_38_code 43 = .ok (.goto 14, 3) := by decide +kernel
theorem d_Mo_times_46 : decode prog_14_method_38_code 46 = .ok (.aload_n 0, 1) := by decide +kernel
theorem d_Mo_times_47 : decode prog_14_method_38_code 47 = .ok (.getfield 41, 3) := by decide +kernel
theorem d_Mo_times_50 : decode prog_14_method_38_code 50 = .ok (.bipush 16, 2) := by decide +kernel
theorem d_Mo_times_52 : decode prog_14_method_38_code 52 = .ok (.iload_n 1, 1) := by decide +kernel
theorem d_Mo_times_53 : decode prog_14_method_38_code 53 = .ok (.imul, 1) := by decide +kernel
theorem d_Mo_times_54 : decode prog_14_method_38_code 54 = .ok (.iload_n 2, 1) := by decide +kernel
theorem d_Mo_times_55 : decode prog_14_method_38_code 55 = .ok (.iadd, 1) := by decide +kernel
theorem d_Mo_times_56 : decode prog_14_method_38_code 56 = .ok (.laload, 1) := by decide +kernel
theorem d_Mo_times_57 : decode prog_14_method_38_code 57 = .ok (.lreturn, 1) := by decide +kernel
theorem d_Mo_many_0 : decode prog_14_method_39_code 0 = .ok (.aload_n 0, 1) := by decide +kernel
theorem d_Mo_many_1 : decode prog_14_method_39_code 1 = .ok (.aload_n 0, 1) := by decide +kernel
theorem d_Mo_many_2 : decode prog_14_method_39_code 2 = .ok (.iload_n 1, 1) := by decide +kernel
theorem d_Mo_many_3 : decode prog_14_method_39_code 3 = .ok (.invokevirtual 145, 3) := by decide +kernel
theorem d_Mo_many_6 : decode prog_14_method_39_code 6 = .ok (.ifCond .eq 7, 3) := by decide +kernel
theorem d_Mo_many_9 : decode prog_14_method_39_code 9 = .ok (.iconst 0, 1) := by decide +kernel
theorem d_Mo_many_10 : decode prog_14_method_39_code 10 = .ok (.goto 4, 3) := by decide +kernel
theorem d_Mo_many_13 : decode prog_14_method_39_code 13 = .ok (.iconst 1, 1) := by decide +kernel
theorem d_Mo_many_14 : decode prog_14_method_39_code 14 = .ok (.putfield 69, 3) := by decide +kernel
theorem d_Mo_many_17 : decode prog_14_method_39_code 17 = .ok (.aload_n 0, 1) := by decide +kernel
theorem d_Mo_many_18 : decode prog_14_method_39_code 18 = .ok (.getfield 69, 3) := by decide +kernel
theorem d_Mo_many_21 : decode prog_14_method_39_code 21 = .ok (.ifCond .le 5, 3) := by decide +kernel
theorem d_Mo_many_24 : decode prog_14_method_39_code 24 = .ok (.lconst 0, 1) := by decide +kernel
theorem d_Mo_many_25 : decode prog_14_method_39_code 25 = .ok (.lreturn, 1) := by decide +kernel
theorem d_Mo_many_26 : decode prog_14_method_39_code 26 = .ok (.aload_n 0, 1) := by decide +kernel
theorem d_Mo_many_27 : decode prog_14_method_39_code 27 = .ok (.getfield 13, 3) := by decide +kernel
theorem d_Mo_many_30 : decode prog_14_method_39_code 30 = .ok (.iload_n 1, 1) := by decide +kernel
theorem d_Mo_many_31 : decode prog_14_method_39_code 31 = .ok (.iaload, 1) := by decide +kernel
theorem d_Mo_many_32 : decode prog_14_method_39_code 32 = .ok (.istore 6, 2) := by decide +kernel
theorem d_Mo_many_34 : decode prog_14_method_39_code 34 = .ok (.iconst 0, 1) := by decide +kernel
theorem d_Mo_many_35 : decode prog_14_method_39_code 35 = .ok (.istore 7, 2) := by decide +kernel
theorem d_Mo_many_37 : decode prog_14_method_39_code 37 = .ok (.iload 7, 2) := by decide +kernel
theorem d_Mo_many_39 : decode prog_14_method_39_code 39 = .ok (.aload_n 0, 1) := by decide +kernel
theorem d_Mo_many_40 : decode prog_14_method_39_code 40 = .ok (.getfield 38, 3) := by decide +kernel
theorem d_Mo_many_43 : decode prog_14_method_39_code 43 = .ok (.iload_n 1, 1) := by decide +kernel
theorem d_Mo_many_44 : decode prog_14_method_39_code 44 = .ok (.iaload, 1) := by decide +kernel
theorem d_Mo_many_45 : decode prog_14_method_39_code 45 = .ok (.if_icmp .ge 102, 3) := by decide +kernel
theorem d_Mo_many_48 : decode prog_14_method_39_code 48 = .ok (.aload_n 0, 1) := by decide +kernel
theorem d_Mo_many_49 : decode prog_14_method_39_code 49 = .ok (.iload_n 1, 1) := by decide +kernel
theorem d_Mo_many_50 : decode prog_14_method_39_code 50 = .ok (.iload 7, 2) := by decide +kernel
theorem d_Mo_many_52 : decode prog_14_method_39_code 52 = .ok (.iconst 0, 1) := by decide +kernel
theorem d_Mo_many_53 : decode prog_14_method_39_code 53 = .ok (.invokevirtual 83, 3) := by decide +kernel
theorem d_Mo_many_56 : decode prog_14_method_39_code 56 = .ok (.iload_n 2, 1) := by decide +kernel
theorem d_Mo_many_57 : decode prog_14_method_39_code 57 = .ok (.if_icmp .ne 63, 3) := by decide +kernel
theorem d_Mo_many_60 : decode prog_14_method_39_code 60 = .ok (.iload 6, 2) := by decide +kernel
theorem d_Mo_many_62 : decode prog_14_method_39_code 62 = .ok (.iconst 2, 1) := by decide +kernel
theorem d_Mo_many_63 : decode prog_14_method_39_code 63 = .ok (.if_icmp .lt 15, 3) := by decide +kernel
theorem d_Mo_many_66 : decode prog_14_method_39_code 66 = .ok (.aload_n 0, 1) := by decide +kernel
theorem d_Mo_many_67 : decode prog_14_method_39_code 67 = .ok (.iload_n 1, 1) := by decide +kernel
theorem d_Mo_many_68 : decode prog_14_method_39_code 68 = .ok (.iload 7, 2) := by decide +kernel
theorem d_Mo_many_70 : decode prog_14_method_39_code 70 = .ok (.iconst 1, 1) := by decide +kernel
theorem d_Mo_many_71 : decode prog_14_method_39_code 71 = .ok (.invokevirtual 83, 3) := by decide +kernel
theorem d_Mo_many_74 : decode prog_14_method_39_code 74 = .ok (.iload_n 3, 1) := by decide +kernel
theorem d_Mo_many_75 : decode prog_14_method_39_code 75 = .ok (.if_icmp .ne 45, 3) := by decide +kernel
theorem d_Mo_many_78 : decode prog_14_method_39_code 78 = .ok (.iload 6, 2) := by decide +kernel
theorem d_Mo_many_80 : decode prog_14_method_39_code 80 = .ok (.iconst 3, 1) := by decide +kernel
theorem d_Mo_many_81 : decode prog_14_method_39_code 81 = .ok (.if_icmp .lt 16, 3) := by decide +kernel
theorem d_Mo_many_84 : decode prog_14_method_39_code 84 = .ok (.aload_n 0, 1) := by decide +kernel
theorem d_Mo_many_85 : decode prog_14_method_39_code 85 = .ok (.iload_n 1, 1) := by decide +kernel
theorem d_Mo_many_86 : decode prog_14_method_39_code 86 = .ok (.iload 7, 2) := by decide +kernel
theorem d_Mo_many_88 : decode prog_14_method_39_code 88 = .ok (.iconst 2, 1) := by decide +kernel
theorem d_Mo_many_89 : decode prog_14_method_39_code 89 = .ok (.invokevirtual 83, 3) := by decide +kernel
theorem d_Mo_many_92 : decode prog_14_method_39_code 92 = .ok (.iload 4, 2) := by decide +kernel
theorem d_Mo_many_94 : decode prog_14_method_39_code 94 = .ok (.if_icmp .ne 26, 3) := by decide +kernel
theorem d_Mo_many_97 : decode prog_14_method_39_code 97 = .ok (.iload 6, 2) := by decide +kernel
theorem d_Mo_many_99 : decode prog_14_method_39_code 99 = .ok (.iconst 4, 1) := by decide +kernel
theorem d_Mo_many_100 : decode prog_14_method_39_code 100 = .ok (.if_icmp .lt 16, 3) := by decide +kernel
theorem d_Mo_many_103 : decode prog_14_method_39_code 103 = .ok (.aload_n 0, 1) := by decide +kernel
theorem d_Mo_many_104 : decode prog_14_method_39_code 104 = .ok (.iload_n 1, 1) := by decide +kernel
theorem d_Mo_many_105 : decode prog_14_method_39_code 105 = .ok (.iload 7, 2) := by decide +kernel
theorem d_Mo_many_107 : decode prog_14_method_39_code 107 = .ok (.iconst 3, 1) := by decide +kernel
theorem d_Mo_many_108 : decode prog_14_method_39_code 108 = .ok (.invokevirtual 83, 3) := by decide +kernel
theorem d_Mo_many_111 : decode prog_14_method_39_code 111 = .ok (.iload 5, 2) := by decide +kernel
theorem d_Mo_many_113 : decode prog_14_method_39_code 113 = .ok (.if_icmp .ne 7, 3) := by decide +kernel
theorem d_Mo_many_116 : decode prog_14_method_39_code 116 = .ok (.iconst 1, 1) := by decide +kernel
theorem d_Mo_many_117 : decode prog_14_method_39_code 117 = .ok (.goto 4, 3) := by decide +kernel
theorem d_Mo_many_120 : decode prog_14_method_39_code 120 = .ok (.iconst 0, 1) := by decide +kernel
theorem d_Mo_many_121 : decode prog_14_method_39_code 121 = .ok (.istore 8, 2) := by decide +kernel
theorem d_Mo_many_123 : decode prog_14_method_39_code 123 = .ok (.iload 8, 2) := by decide +kernel
theorem d_Mo_many_125 : decode prog_14_method_39_code 125 = .ok (.ifCond .eq 16, 3) := by decide +kernel
theorem d_Mo_many_128 : decode prog_14_method_39_code 128 = .ok (.aload_n 0, 1) := by decide +kernel
theorem d_Mo_many_129 : decode prog_14_method_39_code 129 = .ok (.getfield 41, 3) := by decide +kernel
theorem d_Mo_many_132 : decode prog_14_method_39_code 132 = .ok (.bipush 16, 2) := by decide +kernel
theorem d_Mo_many_134 : decode prog_14_method_39_code 134 = .ok (.iload_n 1, 1) := by decide +kernel
theorem d_Mo_many_135 : decode prog_14_method_39_code 135 = .ok (.imul, 1) := by decide +kernel
theorem d_Mo_many_136 : decode prog_14_method_39_code 136 = .ok (.iload 7, 2) := by decide +kernel
theorem d_Mo_many_138 : decode prog_14_method_39_code 138 = .ok (.iadd, 1) := by decide +kernel
theorem d_Mo_many_139 : decode prog_14_method_39_code 139 = .ok (.laload, 1) := by decide +kernel
theorem d_Mo_many_140 : decode prog_14_method_39_code 140 = .ok (.lreturn, 1) := by decide +kernel
theorem d_Mo_many_141 : decode prog_14_method_39_code 141 = .ok (.iinc 7 1, 3) := by decide +kernel
theorem d_Mo_many_144 : decode prog_14_method_39_code 144 = .ok (.goto (-107), 3) := by decide +kernel
theorem d_Mo_many_147 : decode prog_14_method_39_code 147 = .ok (.lconst 0, 1) := by decide +kernel
theorem d_Mo_many_148 : decode prog_14_method_39_code 148 = .ok (.lreturn, 1) := by decide +kernel
theorem d_Mo_moved_0 : decode prog_14_method_40_code 0 = .ok (.aload_n 0, 1) := by decide +kernel
theorem d_Mo_moved_1 : decode prog_14_method_40_code 1 = .ok (.aload_n 0, 1) := by decide +kernel
theorem d_Mo_moved_2 : decode prog_14_method_40_code 2 = .ok (.iload_n 1, 1) := by decide +kernel
theorem d_Mo_moved_3 : decode prog_14_method_40_code 3 = .ok (.invokevirtual 145, 3) := by decide +kernel
theorem d_Mo_moved_6 : decode prog_14_method_40_code 6 = .ok (.ifCond .eq 7, 3) := by decide +kernel
theorem d_Mo_moved_9 : decode prog_14_method_40_code 9 = .ok (.iconst 0, 1) := by decide +kernel
theorem d_Mo_moved_10 : decode prog_14_method_40_code 10 = .ok (.goto 4, 3) := by decide +kernel
theorem d_Mo_moved_13 : decode prog_14_method_40_code 13 = .ok (.iconst 1, 1) := by decide +kernel
theorem d_Mo_moved_14 : decode prog_14_method_40_code 14 = .ok (.putfield 69, 3) := by decide +kernel
theorem d_Mo_moved_17 : decode prog_14_method_40_code 17 = .ok (.aload_n 0, 1) := by decide +kernel
theorem d_Mo_moved_18 : decode prog_14_method_40_code 18 = .ok (.getfield 69, 3) := by decide +kernel
theorem d_Mo_moved_21 : decode prog_14_method_40_code 21 = .ok (.ifCond .le 7, 3) := by decide +kernel
theorem d_Mo_moved_24 : decode prog_14_method_40_code 24 = .ok (.iconst 0, 1) := by decide +kernel
theorem d_Mo_moved_25 : decode prog_14_method_40_code 25 = .ok (.goto 9, 3) := by decide +kernel
theorem d_Mo_moved_28 : decode prog_14_method_40_code 28 = .ok (.aload_n 0, 1) := by decide +kernel
theorem d_Mo_moved_29 : decode prog_14_method_40_code 29 = .ok (.getfield 35, 3) := by decide +kernel
theorem d_Mo_moved_32 : decode prog_14_method_40_code 32 = .ok (.iload_n 1, 1) := by decide +kernel
theorem d_Mo_moved_33 : decode prog_14_method_40_code 33 = .ok (.iaload, 1) := by decide +kernel
theorem d_Mo_moved_34 : decode prog_14_method_40_code 34 = .ok (.ireturn, 1) := by decide +kernel
