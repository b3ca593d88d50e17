theorem d_Mo_init_0 : decode prog_14_method_1_code 0 = .ok (.aload_n 0, 1) := by decide +kernel
theorem d_Mo_init_1 : decode prog_14_method_1_code 1 = .ok (.invokespecial 1, 3) := by decide +kernel
theorem d_Mo_init_4 : decode prog_14_method_1_code 4 = .ok (.aload_n 0, 1) := by decide +kernel
theorem d_Mo_init_5 : decode prog_14_method_1_code 5 = .ok (.iconst 3, 1) := by decide +kernel
theorem d_Mo_init_6 : decode prog_14_method_1_code 6 = .ok (.putfield 7, 3) := by decide +kernel
theorem d_Mo_init_9 : decode prog_14_method_1_code 9 = .ok (.aload_n 0, 1) := by decide +kernel
theorem d_Mo_init_10 : decode prog_14_method_1_code 10 = .ok (.bipush 12, 2) := by decide +kernel
theorem d_Mo_init_12 : decode prog_14_method_1_code 12 = .ok (.newarray .int, 2) := by decide +kernel
theorem d_Mo_init_14 : decode prog_14_method_1_code 14 = .ok (.putfield 13, 3) := by decide +kernel
theorem d_Mo_init_17 : decode prog_14_method_1_code 17 = .ok (.aload_n 0, 1) := by decide +kernel
theorem d_Mo_init_18 : decode prog_14_method_1_code 18 = .ok (.bipush 12, 2) := by decide +kernel
theorem d_Mo_init_20 : decode prog_14_method_1_code 20 = .ok (.newarray .int, 2) := by decide +kernel
theorem d_Mo_init_22 : decode prog_14_method_1_code 22 = .ok (.putfield 17, 3) := by decide +kernel
theorem d_Mo_init_25 : decode prog_14_method_1_code 25 = .ok (.aload_n 0, 1) := by decide +kernel
theorem d_Mo_init_26 : decode prog_14_method_1_code 26 = .ok (.bipush 12, 2) := by decide +kernel
theorem d_Mo_init_28 : decode prog_14_method_1_code 28 = .ok (.newarray .int, 2) := by decide +kernel
theorem d_Mo_init_30 : decode prog_14_method_1_code 30 = .ok (.putfield 20, 3) := by decide +kernel
theorem d_Mo_init_33 : decode prog_14_method_1_code 33 = .ok (.aload_n 0, 1) := by decide +kernel
theorem d_Mo_init_34 : decode prog_14_method_1_code 34 = .ok (.bipush 12, 2) := by decide +kernel
theorem d_Mo_init_36 : decode prog_14_method_1_code 36 = .ok (.newarray .int, 2) := by decide +kernel
theorem d_Mo_init_38 : decode prog_14_method_1_code 38 = .ok (.putfield 23, 3) := by decide +kernel
theorem d_Mo_init_41 : decode prog_14_method_1_code 41 = .ok (.aload_n 0, 1) := by decide +kernel
theorem d_Mo_init_42 : decode prog_14_method_1_code 42 = .ok (.bipush 12, 2) := by decide +kernel
theorem d_Mo_init_44 : decode prog_14_method_1_code 44 = .ok (.newarray .int, 2) := by decide +kernel
theorem d_Mo_init_46 : decode prog_14_method_1_code 46 = .ok (.putfield 26, 3) := by decide +kernel
theorem d_Mo_init_49 : decode prog_14_method_1_code 49 = .ok (.aload_n 0, 1) := by decide +kernel
theorem d_Mo_init_50 : decode prog_14_method_1_code 50 = .ok (.bipush 12, 2) := by decide +kernel
theorem d_Mo_init_52 : decode prog_14_method_1_code 52 = .ok (.newarray .int, 2) := by decide +kernel
theorem d_Mo_init_54 : decode prog_14_method_1_code 54 = .ok (.putfield 29, 3) := by decide +kernel
theorem d_Mo_init_57 : decode prog_14_method_1_code 57 = .ok (.aload_n 0, 1) := by decide +kernel
theorem d_Mo_init_58 : decode prog_14_method_1_code 58 = .ok (.bipush 12, 2) := by decide +kernel
theorem d_Mo_init_60 : decode prog_14_method_1_code 60 = .ok (.newarray .int, 2) := by decide +kernel
theorem d_Mo_init_62 : decode prog_14_method_1_code 62 = .ok (.putfield 32, 3) := by decide +kernel
theorem d_Mo_init_65 : decode prog_14_method_1_code 65 = .ok (.aload_n 0, 1) := by decide +kernel
theorem d_Mo_init_66 : decode prog_14_method_1_code 66 = .ok (.bipush 12, 2) := by decide +kernel
theorem d_Mo_init_68 : decode prog_14_method_1_code 68 = .ok (.newarray .int, 2) := by decide +kernel
theorem d_Mo_init_70 : decode prog_14_method_1_code 70 = .ok (.putfield 35, 3) := by decide +kernel
theorem d_Mo_init_73 : decode prog_14_method_1_code 73 = .ok (.aload_n 0, 1) := by decide +kernel
theorem d_Mo_init_74 : decode prog_14_method_1_code 74 = .ok (.bipush 24, 2) := by decide +kernel
theorem d_Mo_init_76 : decode prog_14_method_1_code 76 = .ok (.newarray .int, 2) := by decide +kernel
theorem d_Mo_init_78 : decode prog_14_method_1_code 78 = .ok (.putfield 38, 3) := by decide +kernel
theorem d_Mo_init_81 : decode prog_14_method_1_code 81 = .ok (.aload_n 0, 1) := by decide +kernel
theorem d_Mo_init_82 : decode prog_14_method_1_code 82 = .ok (.sipush 384, 3) := by decide +kernel
theorem d_Mo_init_85 : decode prog_14_method_1_code 85 = .ok (.newarray .long, 2) := by decide +kernel
theorem d_Mo_init_87 : decode prog_14_method_1_code 87 = .ok (.putfield 41, 3) := by decide +kernel
theorem d_Mo_init_90 : decode prog_14_method_1_code 90 = .ok (.aload_n 0, 1) := by decide +kernel
theorem d_Mo_init_91 : decode prog_14_method_1_code 91 = .ok (.sipush 1536, 3) := by decide +kernel
theorem d_Mo_init_94 : decode prog_14_method_1_code 94 = .ok (.newarray .int, 2) := by decide +kernel
theorem d_Mo_init_96 : decode prog_14_method_1_code 96 = .ok (.putfield 45, 3) := by decide +kernel
theorem d_Mo_init_99 : decode prog_14_method_1_code 99 = .ok (.aload_n 0, 1) := by decide +kernel
theorem d_Mo_init_100 : decode prog_14_method_1_code 100 = .ok (.sipush 256, 3) := by decide +kernel
theorem d_Mo_init_103 : decode prog_14_method_1_code 103 = .ok (.newarray .long, 2) := by decide +kernel
theorem d_Mo_init_105 : decode prog_14_method_1_code 105 = .ok (.putfield 48, 3) := by decide +kernel
theorem d_Mo_init_108 : decode prog_14_method_1_code 108 = .ok (.aload_n 0, 1) := by decide +kernel
theorem d_Mo_init_109 : decode prog_14_method_1_code 109 = .ok (.sipush 1024, 3) := by decide +kernel
theorem d_Mo_init_112 : decode prog_14_method_1_code 112 = .ok (.newarray .int, 2) := by decide +kernel
theorem d_Mo_init_114 : decode prog_14_method_1_code 114 = .ok (.putfield 51, 3) := by decide +kernel
theorem d_Mo_init_117 : decode prog_14_method_1_code 117 = .ok (.aload_n 0, 1) := by decide +kernel
theorem d_Mo_init_118 : decode prog_14_method_1_code 118 = .ok (.iconst 4, 1) := by decide +kernel
theorem d_Mo_init_119 : decode prog_14_method_1_code 119 = .ok (.newarray .int, 2) := by decide +kernel
theorem d_Mo_init_121 : decode prog_14_method_1_code 121 = .ok (.putfield 54, 3) := by decide +kernel
theorem d_Mo_init_124 : decode prog_14_method_1_code 124 = .ok (.aload_n 0, 1) := by decide +kernel
theorem d_Mo_init_125 : decode prog_14_method_1_code 125 = .ok (.bipush 8, 2) := by decide +kernel
theorem d_Mo_init_127 : decode prog_14_method_1_code 127 = .ok (.newarray .int, 2) := by decide +kernel
theorem d_Mo_init_129 : decode prog_14_method_1_code 129 = .ok (.putfield 57, 3) := by decide +kernel
theorem d_Mo_init_132 : decode prog_14_method_1_code 132 = .ok (.aload_n 0, 1) := by decide +kernel
theorem d_Mo_init_133 : decode prog_14_method_1_code 133 = .ok (.bipush 8, 2) := by decide +kernel
theorem d_Mo_init_135 : decode prog_14_method_1_code 135 = .ok (.newarray .int, 2) := by decide +kernel
theorem d_Mo_init_137 : decode prog_14_method_1_code 137 = .ok (.putfield 60, 3) := by decide +kernel
theorem d_Mo_init_140 : decode prog_14_method_1_code 140 = .ok (.aload_n 0, 1) := by decide +kernel
theorem d_Mo_init_141 : decode prog_14_method_1_code 141 = .ok (.bipush 8, 2) := by decide +kernel
theorem d_Mo_init_143 : decode prog_14_method_1_code 143 = .ok (.newarray .int, 2) := by decide +kernel
theorem d_Mo_init_145 : decode prog_14_method_1_code 145 = .ok (.putfield 63, 3) := by decide +kernel
theorem d_Mo_init_148 : decode prog_14_method_1_code 148 = .ok (.aload_n 0, 1) := by decide +kernel
theorem d_Mo_init_149 : decode prog_14_method_1_code 149 = .ok (.bipush 8, 2) := by decide +kernel
theorem d_Mo_init_151 : decode prog_14_method_1_code 151 = .ok (.newarray .int, 2) := by decide +kernel
theorem d_Mo_init_153 : decode prog_14_method_1_code 153 = .ok (.putfield 66, 3) := by decide +kernel
theorem d_Mo_init_156 : decode prog_14_method_1_code 156 = .ok (.iconst 0, 1) := by decide +kernel
theorem d_Mo_init_157 : decode prog_14_method_1_code 157 = .ok (.istore_n 1, 1) := by decide +kernel
theorem d_Mo_init_158 : decode prog_14_method_1_code 158 = .ok (.iload_n 1, 1) := by decide +kernel
theorem d_Mo_init_159 : decode prog_14_method_1_code 159 = .ok (.iconst 3, 1) := by decide +kernel
theorem d_Mo_init_160 : decode prog_14_method_1_code 160 = .ok (.if_icmp .ge 16, 3) := by decide +kernel
theorem d_Mo_init_163 : decode prog_14_method_1_code 163 = .ok (.aload_n 0, 1) := by decide +kernel
theorem d_Mo_init_164 : decode prog_14_method_1_code 164 = .ok (.getfield 13, 3) := by decide +kernel
theorem d_Mo_init_167 : decode prog_14_method_1_code 167 = .ok (.iload_n 1, 1) := by decide +kernel
theorem d_Mo_init_168 : decode prog_14_method_1_code 168 = .ok (.iconst 2, 1) := by decide +kernel
theorem d_Mo_init_169 : decode prog_14_method_1_code 169 = .ok (.iastore, 1) := by decide +kernel
theorem d_Mo_init_170 : decode prog_14_method_1_code 170 = .ok (.iinc 1 1, 3) := by decide +kernel
theorem d_Mo_init_173 : decode prog_14_method_1_code 173 = .ok (.goto (-15), 3) := by decide +kernel
theorem d_Mo_init_176 : decode prog_14_method_1_code 176 = .ok (.return_, 1) := by decide +kernel
theorem d_Mo_thrown_0 : decode prog_14_method_2_code 0 = .ok (.aload_n 0, 1) := by decide +kernel
theorem d_Mo_thrown_1 : decode prog_14_method_2_code 1 = .ok (.getfield 69, 3) := by decide +kernel
theorem d_Mo_thrown_4 : decode prog_14_method_2_code 4 = .ok (.ireturn, 1) := by decide +kernel
theorem d_Mo_change_0 : decode prog_14_method_17_code 0 = .ok (.aload_n 0, 1) := by decide +kernel
theorem d_Mo_change_1 : decode prog_14_method_17_code 1 = .ok (.iconst 0, 1) := by decide +kernel
theorem d_Mo_change_2 : decode prog_14_method_17_code 2 = .ok (.putfield 69, 3) := by decide +kernel
theorem d_Mo_change_5 : decode prog_14_method_17_code 5 = .ok (.iload_n 1, 1) := by decide +kernel
theorem d_Mo_change_6 : decode prog_14_method_17_code 6 = .ok (.ifCond .lt 8, 3) := by decide +kernel
theorem d_Mo_change_9 : decode prog_14_method_17_code 9 = .ok (.iload_n 1, 1) := by decide +kernel
theorem d_Mo_change_10 : decode prog_14_method_17_code 10 = .ok (.iconst 2, 1) := by decide +kernel
theorem d_Mo_change_11 : decode prog_14_method_17_code 11 = .ok (.if_icmp .le 11, 3) := by decide +kernel
theorem d_Mo_change_14 : decode prog_14_method_17_code 14 = .ok (.aload_n 0, 1) := by decide +kernel
theorem d_Mo_change_15 : decode prog_14_method_17_code 15 = .ok (.iconst 1, 1) := by decide +kernel
theorem d_Mo_change_16 : decode prog_14_method_17_code 16 = .ok (.putfield 69, 3) := by decide +kernel
theorem d_Mo_change_19 : decode prog_14_method_17_code 19 = .ok (.goto 67, 3) := by decide +kernel
theorem d_Mo_change_22 : decode prog_14_method_17_code 22 = .ok (.iload_n 2, 1) := by decide +kernel
theorem d_Mo_change_23 : decode prog_14_method_17_code 23 = .ok (.sipush (-1000), 3) := by decide +kernel
theorem d_Mo_change_26 : decode prog_14_method_17_code 26 = .ok (.if_icmp .lt 38, 3) := by decide +kernel
theorem d_Mo_change_29 : decode prog_14_method_17_code 29 = .ok (.iload_n 2, 1) := by decide +kernel
theorem d_Mo_change_30 : decode prog_14_method_17_code 30 = .ok (.sipush 1000, 3) := by decide +kernel
theorem d_Mo_change_33 : decode prog_14_method_17_code 33 = .ok (.if_icmp .gt 31, 3) := by decide +kernel
theorem d_Mo_change_36 : decode prog_14_method_17_code 36 = .ok (.iload_n 3, 1) := by decide +kernel
theorem d_Mo_change_37 : decode prog_14_method_17_code 37 = .ok (.sipush (-1000), 3) := by decide +kernel
theorem d_Mo_change_40 : decode prog_14_method_17_code 40 = .ok (.if_icmp .lt 24, 3) := by decide +kernel
theorem d_Mo_change_43 : decode prog_14_method_17_code 43 = .ok (.iload_n 3, 1) := by decide +kernel
theorem d_Mo_change_44 : decode prog_14_method_17_code 44 = .ok (.sipush 1000, 3) := by decide +kernel
theorem d_Mo_change_47 : decode prog_14_method_17_code 47 = .ok (.if_icmp .gt 17, 3) := by decide +kernel
theorem d_Mo_change_50 : decode prog_14_method_17_code 50 = .ok (.iload 4, 2) := by decide +kernel
theorem d_Mo_change_52 : decode prog_14_method_17_code 52 = .ok (.bipush (-99), 2) := by decide +kernel
theorem d_Mo_change_54 : decode prog_14_method_17_code 54 = .ok (.if_icmp .lt 10, 3) := by decide +kernel
theorem d_Mo_change_57 : decode prog_14_method_17_code 57 = .ok (.iload 4, 2) := by decide +kernel
theorem d_Mo_change_59 : decode prog_14_method_17_code 59 = .ok (.bipush 99, 2) := by decide +kernel
theorem d_Mo_change_61 : decode prog_14_method_17_code 61 = .ok (.if_icmp .le 11, 3) := by decide +kernel
theorem d_Mo_change_64 : decode prog_14_method_17_code 64 = .ok (.aload_n 0, 1) := by decide +kernel
theorem d_Mo_change_65 : decode prog_14_method_17_code 65 = .ok (.iconst 2, 1) := by decide +kernel
theorem d_Mo_change_66 : decode prog_14_method_17_code 66 = .ok (.putfield 69, 3) := by decide +kernel
theorem d_Mo_change_69 : decode prog_14_method_17_code 69 = .ok (.goto 17, 3) := by decide +kernel
theorem d_Mo_change_72 : decode prog_14_method_17_code 72 = .ok (.aload_n 0, 1) := by decide +kernel
theorem d_Mo_change_73 : decode prog_14_method_17_code 73 = .ok (.getfield 121, 3) := by decide +kernel
theorem d_Mo_change_76 : decode prog_14_method_17_code 76 = .ok (.bipush 8, 2) := by decide +kernel
theorem d_Mo_change_78 : decode prog_14_method_17_code 78 = .ok (.if_icmp .ne 8, 3) := by decide +kernel
theorem d_Mo_change_81 : decode prog_14_method_17_code 81 = .ok (.aload_n 0, 1) := by decide +kernel
theorem d_Mo_change_82 : decode prog_14_method_17_code 82 = .ok (.iconst 3, 1) := by decide +kernel
theorem d_Mo_change_83 : decode prog_14_method_17_code 83 = .ok (.putfield 69, 3) := by decide +kernel
theorem d_Mo_change_86 : decode prog_14_method_17_code 86 = .ok (.aload_n 0, 1) := by decide +kernel
theorem d_Mo_change_87 : decode prog_14_method_17_code 87 = .ok (.getfield 69, 3) := by decide +kernel
theorem d_Mo_change_90 : decode prog_14_method_17_code 90 = .ok (.ifCond .le 5, 3) := by decide +kernel
theorem d_Mo_change_93 : decode prog_14_method_17_code 93 = .ok (.iconst 0, 1) := by decide +kernel
theorem d_Mo_change_94 : decode prog_14_method_17_code 94 = .ok (.ireturn, 1) := by decide +kernel
theorem d_Mo_change_95 : decode prog_14_method_17_code 95 = .ok (.aload_n 0, 1) := by decide +kernel
theorem d_Mo_change_96 : decode prog_14_method_17_code 96 = .ok (.getfield 57, 3) := by decide +kernel
theorem d_Mo_change_99 : decode prog_14_method_17_code 99 = .ok (.aload_n 0, 1) := by decide +kernel
theorem d_Mo_change_100 : decode prog_14_method_17_code 100 = .ok (.getfield 121, 3) := by decide +kernel
theorem d_Mo_change_103 : decode prog_14_method_17_code 103 = .ok (.iload_n 1, 1) := by decide +kernel
theorem d_Mo_change_104 : decode prog_14_method_17_code 104 = .ok (.iastore, 1) := by decide +kernel
theorem d_Mo_change_105 : decode prog_14_method_17_code 105 = .ok (.aload_n 0, 1) := by decide +kernel
theorem d_Mo_change_106 : decode prog_14_method_17_code 106 = .ok (.getfield 60, 3) := by decide +kernel
theorem d_Mo_change_109 : decode prog_14_method_17_code 109 = .ok (.aload_n 0, 1) := by decide +kernel
theorem d_Mo_change_110 : decode prog_14_method_17_code 110 = .ok (.getfield 121, 3) := by decide +kernel
theorem d_Mo_change_113 : decode prog_14_method_17_code 113 = .ok (.iload_n 2, 1) := by decide +kernel
theorem d_Mo_change_114 : decode prog_14_method_17_code 114 = .ok (.iastore, 1) := by decide +kernel
theorem d_Mo_change_115 : decode prog_14_method_17_code 115 = .ok (.aload_n 0, 1) := by decide +kernel
theorem d_Mo_change_116 : decode prog_14_method_17_code 116 = .ok (.getfield 63, 3) := by decide +kernel
theorem d_Mo_change_119 : decode prog_14_method_17_code 119 = .ok (.aload_n 0, 1) := by decide +kernel
theorem d_Mo_change_120 : decode prog_14_method_17_code 120 = .ok (.getfield 121, 3) := by decide +kernel
theorem d_Mo_change_123 : decode prog_14_method_17_code 123 = .ok (.iload_n 3, 1) := by decide +kernel
theorem d_Mo_change_124 : decode prog_14_method_17_code 124 = .ok (.iastore, 1) := by decide +kernel
theorem d_Mo_change_125 : decode prog_14_method_17_code 125 = .ok (.aload_n 0, 1) := by decide +kernel
theorem d_Mo_change_126 : decode prog_14_method_17_code 126 = .ok (.getfield 66, 3) := by decide +kernel
theorem d_Mo_change_129 : decode prog_14_method_17_code 129 = .ok (.aload_n 0, 1) := by decide +kernel
theorem d_Mo_change_130 : decode prog_14_method_17_code 130 = .ok (.getfield 121, 3) := by decide +kernel
theorem d_Mo_change_133 : decode prog_14_method_17_code 133 = .ok (.iload 4, 2) := by decide +kernel
theorem d_Mo_change_135 : decode prog_14_method_17_code 135 = .ok (.iastore, 1) := by decide +kernel
theorem d_Mo_change_136 : decode prog_14_method_17_code 136 = .ok (.aload_n 0, 1) := by decide +kernel
theorem d_Mo_change_137 : decode prog_14_method_17_code 137 = .ok (.dup, 1) := by decide +kernel
theorem d_Mo_change_138 : decode prog_14_method_17_code 138 = .ok (.getfield 121, 3) := by decide +kernel
theorem d_Mo_change_141 : decode prog_14_method_17_code 141 = .ok (.iconst 1, 1) := by decide +kernel
theorem d_Mo_change_142 : decode prog_14_method_17_code 142 = .ok (.iadd, 1) := by decide +kernel
theorem d_Mo_change_143 : decode prog_14_method_17_code 143 = .ok (.putfield 121, 3) := by decide +kernel
theorem d_Mo_change_146 : decode prog_14_method_17_code 146 = .ok (.aload_n 0, 1) := by decide +kernel
theorem d_Mo_change_147 : decode prog_14_method_17_code 147 = .ok (.getfield 121, 3) := by decide +kernel
theorem d_Mo_change_150 : decode prog_14_method_17_code 150 = .ok (.ireturn, 1) := by decide +kernel
theorem d_Mo_cancel_0 : decode prog_14_method_18_code 0 = .ok (.aload_n 0, 1) := by decide +kernel
theorem d_Mo_cancel_1 : decode prog_14_method_18_code 1 = .ok (.iconst 0, 1) := by decide +kernel
theorem d_Mo_cancel_2 : decode prog_14_method_18_code 2 = .ok (.putfield 69, 3) := by decide +kernel
theorem d_Mo_cancel_5 : decode prog_14_method_18_code 5 = .ok (.aload_n 0, 1) := by decide +kernel
theorem d_Mo_cancel_6 : decode prog_14_method_18_code 6 = .ok (.getfield 121, 3) := by decide +kernel
theorem d_Mo_cancel_9 : decode prog_14_method_18_code 9 = .ok (.istore_n 1, 1) := by decide +kernel
theorem d_Mo_cancel_10 : decode prog_14_method_18_code 10 = .ok (.aload_n 0, 1) := by decide +kernel
theorem d_Mo_cancel_11 : decode prog_14_method_18_code 11 = .ok (.iconst 0, 1) := by decide +kernel
theorem d_Mo_cancel_12 : decode prog_14_method_18_code 12 = .ok (.putfield 121, 3) := by decide +kernel
theorem d_Mo_cancel_15 : decode prog_14_method_18_code 15 = .ok (.iload_n 1, 1) := by decide +kernel
theorem d_Mo_cancel_16 : decode prog_14_method_18_code 16 = .ok (.ireturn, 1) := by decide +kernel
theorem d_Mo_commit_0 : decode prog_14_method_23_code 0 = .ok (.aload_n 0, 1) := by decide +kernel
theorem d_Mo_commit_1 : decode prog_14_method_23_code 1 = .ok (.iconst 0, 1) := by decide +kernel
theorem d_Mo_commit_2 : decode prog_14_method_23_code 2 = .ok (.putfield 69, 3) := by decide +kernel
theorem d_Mo_commit_5 : decode prog_14_method_23_code 5 = .ok (.aload_n 0, 1) := by decide +kernel
theorem d_Mo_commit_6 : decode prog_14_method_23_code 6 = .ok (.iconst 0, 1) := by decide +kernel
theorem d_Mo_commit_7 : decode prog_14_method_23_code 7 = .ok (.invokevirtual 134, 3) := by decide +kernel
theorem d_Mo_commit_10 : decode prog_14_method_23_code 10 = .ok (.ifCond .eq 23, 3) := by decide +kernel
theorem d_Mo_commit_13 : decode prog_14_method_23_code 13 = .ok (.aload_n 0, 1) := by decide +kernel
theorem d_Mo_commit_14 : decode prog_14_method_23_code 14 = .ok (.iconst 1, 1) := by decide +kernel
theorem d_Mo_commit_15 : decode prog_14_method_23_code 15 = .ok (.invokevirtual 134, 3) := by decide +kernel
theorem d_Mo_commit_18 : decode prog_14_method_23_code 18 = .ok (.ifCond .eq 15, 3) := by decide +kernel
theorem d_Mo_commit_21 : decode prog_14_method_23_code 21 = .ok (.aload_n 0, 1) := by decide +kernel
theorem d_Mo_commit_22 : decode prog_14_method_23_code 22 = .ok (.iconst 2, 1) := by decide +kernel
theorem d_Mo_commit_23 : decode prog_14_method_23_code 23 = .ok (.invokevirtual 134, 3) := by decide +kernel
theorem d_Mo_commit_26 : decode prog_14_method_23_code 26 = .ok (.ifCond .eq 7, 3) := by decide +kernel
theorem d_Mo_commit_29 : decode prog_14_method_23_code 29 = .ok (.iconst 1, 1) := by decide +kernel
theorem d_Mo_commit_30 : decode prog_14_method_23_code 30 = .ok (.goto 4, 3) := by decide +kernel
theorem d_Mo_commit_33 : decode prog_14_method_23_code 33 = .ok (.iconst 0, 1) := by decide +kernel
theorem d_Mo_commit_34 : decode prog_14_method_23_code 34 = .ok (.istore_n 1, 1) := by decide +kernel
theorem d_Mo_commit_35 : decode prog_14_method_23_code 35 = .ok (.iconst 3, 1) := by decide +kernel
theorem d_Mo_commit_36 : decode prog_14_method_23_code 36 = .ok (.istore_n 2, 1) := by decide +kernel
theorem d_Mo_commit_37 : decode prog_14_method_23_code 37 = .ok (.iload_n 2, 1) := by decide +kernel
theorem d_Mo_commit_38 : decode prog_14_method_23_code 38 = .ok (.aload_n 0, 1) := by decide +kernel
theorem d_Mo_commit_39 : decode prog_14_method_23_code 39 = .ok (.getfield 7, 3) := by decide +kernel
theorem d_Mo_commit_42 : decode prog_14_method_23_code 42 = .ok (.if_icmp .ge 21, 3) := by decide +kernel
theorem d_Mo_commit_45 : decode prog_14_method_23_code 45 = .ok (.iload_n 1, 1) := by decide +kernel
theorem d_Mo_commit_46 : decode prog_14_method_23_code 46 = .ok (.ifCond .eq 17, 3) := by decide +kernel
theorem d_Mo_commit_49 : decode prog_14_method_23_code 49 = .ok (.aload_n 0, 1) := by decide +kernel
theorem d_Mo_commit_50 : decode prog_14_method_23_code 50 = .ok (.iload_n 2, 1) := by decide +kernel
theorem d_Mo_commit_51 : decode prog_14_method_23_code 51 = .ok (.bipush 12, 2) := by decide +kernel
theorem d_Mo_commit_53 : decode prog_14_method_23_code 53 = .ok (.invokevirtual 138, 3) := by decide +kernel
theorem d_Mo_commit_56 : decode prog_14_method_23_code 56 = .ok (.istore_n 1, 1) := by decide +kernel
theorem d_Mo_commit_57 : decode prog_14_method_23_code 57 = .ok (.iinc 2 1, 3) := by decide +kernel
theorem d_Mo_commit_60 : decode prog_14_method_23_code 60 = .ok (.goto (-23), 3) := by decide +kernel
theorem d_Mo_commit_63 : decode prog_14_method_23_code 63 = .ok (.aload_n 0, 1) := by decide +kernel
theorem d_Mo_commit_64 : decode prog_14_method_23_code 64 = .ok (.iconst 0, 1) := by decide +kernel
theorem d_Mo_commit_65 : decode prog_14_method_23_code 65 = .ok (.putfield 121, 3) := by decide +kernel
theorem d_Mo_commit_68 : decode prog_14_method_23_code 68 = .ok (.iload_n 1, 1) := by decide +kernel
theorem d_Mo_commit_69 : decode prog_14_method_23_code 69 = .ok (.ifCond .ne 10, 3) := by decide +kernel
theorem d_Mo_commit_72 : decode prog_14_method_23_code 72 = .ok (.aload_n 0, 1) := by decide +kernel
theorem d_Mo_commit_73 : decode prog_14_method_23_code 73 = .ok (.iconst 1, 1) := by decide +kernel
theorem d_Mo_commit_74 : decode prog_14_method_23_code 74 = .ok (.putfield 69, 3) := by decide +kernel
theorem d_Mo_commit_77 : decode prog_14_method_23_code 77 = .ok (.iconst 0, 1) := by decide +kernel
theorem d_Mo_commit_78 : decode prog_14_method_23_code 78 = .ok (.ireturn, 1) := by decide +kernel
theorem d_Mo_commit_79 : decode prog_14_method_23_code 79 = .ok (.iconst 0, 1) := by decide +kernel
theorem d_Mo_commit_80 : decode prog_14_method_23_code 80 = .ok (.istore_n 2, 1) := by decide +kernel
theorem d_Mo_commit_81 : decode prog_14_method_23_code 81 = .ok (.iload_n 2, 1) := by decide +kernel
theorem d_Mo_commit_82 : decode prog_14_method_23_code 82 = .ok (.aload_n 0, 1) := by decide +kernel
theorem d_Mo_commit_83 : decode prog_14_method_23_code 83 = .ok (.getfield 7, 3) := by decide +kernel
theorem d_Mo_commit_86 : decode prog_14_method_23_code 86 = .ok (.if_icmp .ge 14, 3) := by decide +kernel
theorem d_Mo_commit_89 : decode prog_14_method_23_code 89 = .ok (.aload_n 0, 1) := by decide +kernel
theorem d_Mo_commit_90 : decode prog_14_method_23_code 90 = .ok (.iload_n 2, 1) := by decide +kernel
theorem d_Mo_commit_91 : decode prog_14_method_23_code 91 = .ok (.invokevirtual 141, 3) := by decide +kernel
theorem d_Mo_commit_94 : decode prog_14_method_23_code 94 = .ok (.iinc 2 1, 3) := by decide +kernel
theorem d_Mo_commit_97 : decode prog_14_method_23_code 97 = .ok (.goto (-16), 3) := by decide +kernel
theorem d_Mo_commit_100 : decode prog_14_method_23_code 100 = .ok (.aload_n 0, 1) := by decide +kernel
theorem d_Mo_commit_101 : decode prog_14_method_23_code 101 = .ok (.getfield 35, 3) := by decide +kernel
theorem d_Mo_commit_104 : decode prog_14_method_23_code 104 = .ok (.iconst 0, 1) := by decide +kernel
theorem d_Mo_commit_105 : decode prog_14_method_23_code 105 = .ok (.iaload, 1) := by decide +kernel
theorem d_Mo_commit_106 : decode prog_14_method_23_code 106 = .ok (.aload_n 0, 1) := by decide +kernel
theorem d_Mo_commit_107 : decode prog_14_method_23_code 107 = .ok (.getfield 35, 3) := by decide +kernel
theorem d_Mo_commit_110 : decode prog_14_method_23_code 110 = .ok (.iconst 1, 1) := by decide +kernel
theorem d_Mo_commit_111 : decode prog_14_method_23_code 111 = .ok (.iaload, 1) := by decide +kernel
theorem d_Mo_commit_112 : decode prog_14_method_23_code 112 = .ok (.iadd, 1) := by decide +kernel
theorem d_Mo_commit_113 : decode prog_14_method_23_code 113 = .ok (.aload_n 0, 1) := by decide +kernel
theorem d_Mo_commit_114 : decode prog_14_method_23_code 114 = .ok (.getfield 35, 3) := by decide +kernel
theorem d_Mo_commit_117 : decode prog_14_method_23_code 117 = .ok (.iconst 2, 1) := by decide +kernel
theorem d_Mo_commit_118 : decode prog_14_method_23_code 118 = .ok (.iaload, 1) := by decide +kernel
theorem d_Mo_commit_119 : decode prog_14_method_23_code 119 = .ok (.iadd, 1) := by decide +kernel
theorem d_Mo_commit_120 : decode prog_14_method_23_code 120 = .ok (.ireturn, 1) := by decide +kernel
theorem d_Mo_tryTable_0 : decode prog_14_method_19_code 0 = .ok (.aload_n 0, 1) := by decide +kernel
theorem d_Mo_tryTable_1 : decode prog_14_method_19_code 1 = .ok (.iconst 0, 1) := by decide +kernel
theorem d_Mo_tryTable_2 : decode prog_14_method_19_code 2 = .ok (.putfield 72, 3) := by decide +kernel
theorem d_Mo_tryTable_5 : decode prog_14_method_19_code 5 = .ok (.iconst 0, 1) := by decide +kernel
theorem d_Mo_tryTable_6 : decode prog_14_method_19_code 6 = .ok (.istore_n 2, 1) := by decide +kernel
theorem d_Mo_tryTable_7 : decode prog_14_method_19_code 7 = .ok (.iload_n 2, 1) := by decide +kernel
theorem d_Mo_tryTable_8 : decode prog_14_method_19_code 8 = .ok (.aload_n 0, 1) := by decide +kernel
theorem d_Mo_tryTable_9 : decode prog_14_method_19_code 9 = .ok (.getfield 38, 3) := by decide +kernel
theorem d_Mo_tryTable_12 : decode prog_14_method_19_code 12 = .ok (.iload_n 1, 1) := by decide +kernel
theorem d_Mo_tryTable_13 : decode prog_14_method_19_code 13 = .ok (.iaload, 1) := by decide +kernel
theorem d_Mo_tryTable_14 : decode prog_14_method_19_code 14 = .ok (.if_icmp .ge 31, 3) := by decide +kernel
theorem d_Mo_tryTable_17 : decode prog_14_method_19_code 17 = .ok (.aload_n 0, 1) := by decide +kernel
theorem d_Mo_tryTable_18 : decode prog_14_method_19_code 18 = .ok (.iload_n 1, 1) := by decide +kernel
theorem d_Mo_tryTable_19 : decode prog_14_method_19_code 19 = .ok (.iload_n 2, 1) := by decide +kernel
theorem d_Mo_tryTable_20 : decode prog_14_method_19_code 20 = .ok (.invokevirtual 90, 3) := by decide +kernel
theorem d_Mo_tryTable_23 : decode prog_14_method_19_code 23 = .ok (.aload_n 0, 1) := by decide +kernel
theorem d_Mo_tryTable_24 : decode prog_14_method_19_code 24 = .ok (.iconst 2, 1) := by decide +kernel
theorem d_Mo_tryTable_25 : decode prog_14_method_19_code 25 = .ok (.aload_n 0, 1) := by decide +kernel
theorem d_Mo_tryTable_26 : decode prog_14_method_19_code 26 = .ok (.getfield 41, 3) := by decide +kernel
theorem d_Mo_tryTable_29 : decode prog_14_method_19_code 29 = .ok (.bipush 16, 2) := by decide +kernel
theorem d_Mo_tryTable_31 : decode prog_14_method_19_code 31 = .ok (.iload_n 1, 1) := by decide +kernel
theorem d_Mo_tryTable_32 : decode prog_14_method_19_code 32 = .ok (.imul, 1) := by decide +kernel
theorem d_Mo_tryTable_33 : decode prog_14_method_19_code 33 = .ok (.iload_n 2, 1) := by decide +kernel
theorem d_Mo_tryTable_34 : decode prog_14_method_19_code 34 = .ok (.iadd, 1) := by decide +kernel
theorem d_Mo_tryTable_35 : decode prog_14_method_19_code 35 = .ok (.laload, 1) := by decide +kernel
theorem d_Mo_tryTable_36 : decode prog_14_method_19_code 36 = .ok (.invokevirtual 94, 3) := by decide +kernel
theorem d_Mo_tryTable_39 : decode prog_14_method_19_code 39 = .ok (.iinc 2 1, 3) := by decide +kernel
theorem d_Mo_tryTable_42 : decode prog_14_method_19_code 42 = .ok (.goto (-35), 3) := by decide +kernel
theorem d_Mo_tryTable_45 : decode prog_14_method_19_code 45 = .ok (.iconst 0, 1) := by decide +kernel
theorem d_Mo_tryTable_46 : decode prog_14_method_19_code 46 = .ok (.istore_n 2, 1) := by decide +kernel
theorem d_Mo_tryTable_47 : decode prog_14_method_19_code 47 = .ok (.iload_n 2, 1) := by decide +kernel
theorem d_Mo_tryTable_48 : decode prog_14_method_19_code 48 = .ok (.aload_n 0, 1) := by decide +kernel
theorem d_Mo_tryTable_49 : decode prog_14_method_19_code 49 = .ok (.getfield 121, 3) := by decide +kernel
theorem d_Mo_tryTable_52 : decode prog_14_method_19_code 52 = .ok (.if_icmp .ge 55, 3) := by decide +kernel
theorem d_Mo_tryTable_55 : decode prog_14_method_19_code 55 = .ok (.aload_n 0, 1) := by decide +kernel
theorem d_Mo_tryTable_56 : decode prog_14_method_19_code 56 = .ok (.getfield 57, 3) := by decide +kernel
theorem d_Mo_tryTable_59 : decode prog_14_method_19_code 59 = .ok (.iload_n 2, 1) := by decide +kernel
theorem d_Mo_tryTable_60 : decode prog_14_method_19_code 60 = .ok (.iaload, 1) := by decide +kernel
theorem d_Mo_tryTable_61 : decode prog_14_method_19_code 61 = .ok (.iload_n 1, 1) := by decide +kernel
theorem d_Mo_tryTable_62 : decode prog_14_method_19_code 62 = .ok (.if_icmp .ne 39, 3) := by decide +kernel
theorem d_Mo_tryTable_65 : decode prog_14_method_19_code 65 = .ok (.aload_n 0, 1) := by decide +kernel
theorem d_Mo_tryTable_66 : decode prog_14_method_19_code 66 = .ok (.getfield 54, 3) := by decide +kernel
theorem d_Mo_tryTable_69 : decode prog_14_method_19_code 69 = .ok (.iconst 0, 1) := by decide +kernel
theorem d_Mo_tryTable_70 : decode prog_14_method_19_code 70 = .ok (.aload_n 0, 1) := by decide +kernel
theorem d_Mo_tryTable_71 : decode prog_14_method_19_code 71 = .ok (.getfield 60, 3) := by decide +kernel
theorem d_Mo_tryTable_74 : decode prog_14_method_19_code 74 = .ok (.iload_n 2, 1) := by decide +kernel
theorem d_Mo_tryTable_75 : decode prog_14_method_19_code 75 = .ok (.iaload, 1) := by decide +kernel
theorem d_Mo_tryTable_76 : decode prog_14_method_19_code 76 = .ok (.iastore, 1) := by decide +kernel
theorem d_Mo_tryTable_77 : decode prog_14_method_19_code 77 = .ok (.aload_n 0, 1) := by decide +kernel
theorem d_Mo_tryTable_78 : decode prog_14_method_19_code 78 = .ok (.getfield 54, 3) := by decide +kernel
theorem d_Mo_tryTable_81 : decode prog_14_method_19_code 81 = .ok (.iconst 1, 1) := by decide +kernel
theorem d_Mo_tryTable_82 : decode prog_14_method_19_code 82 = .ok (.aload_n 0, 1) := by decide +kernel
theorem d_Mo_tryTable_83 : decode prog_14_method_19_code 83 = .ok (.getfield 63, 3) := by decide +kernel
theorem d_Mo_tryTable_86 : decode prog_14_method_19_code 86 = .ok (.iload_n 2, 1) := by decide +kernel
theorem d_Mo_tryTable_87 : decode prog_14_method_19_code 87 = .ok (.iaload, 1) := by decide +kernel
theorem d_Mo_tryTable_88 : decode prog_14_method_19_code 88 = .ok (.iastore, 1) := by decide +kernel
theorem d_Mo_tryTable_89 : decode prog_14_method_19_code 89 = .ok (.aload_n 0, 1) := by decide +kernel
theorem d_Mo_tryTable_90 : decode prog_14_method_19_code 90 = .ok (.iconst 2, 1) := by decide +kernel
theorem d_Mo_tryTable_91 : decode prog_14_method_19_code 91 = .ok (.aload_n 0, 1) := by decide +kernel
theorem d_Mo_tryTable_92 : decode prog_14_method_19_code 92 = .ok (.getfield 66, 3) := by decide +kernel
theorem d_Mo_tryTable_95 : decode prog_14_method_19_code 95 = .ok (.iload_n 2, 1) := by decide +kernel
theorem d_Mo_tryTable_96 : decode prog_14_method_19_code 96 = .ok (.iaload, 1) := by decide +kernel
theorem d_Mo_tryTable_97 : decode prog_14_method_19_code 97 = .ok (.i2l, 1) := by decide +kernel
theorem d_Mo_tryTable_98 : decode prog_14_method_19_code 98 = .ok (.invokevirtual 94, 3) := by decide +kernel
theorem d_Mo_tryTable_101 : decode prog_14_method_19_code 101 = .ok (.iinc 2 1, 3) := by decide +kernel
theorem d_Mo_tryTable_104 : decode prog_14_method_19_code 104 = .ok (.goto (-57), 3) := by decide +kernel
theorem d_Mo_tryTable_107 : decode prog_14_method_19_code 107 = .ok (.iconst 1, 1) := by decide +kernel
theorem d_Mo_tryTable_108 : decode prog_14_method_19_code 108 = .ok (.istore_n 2, 1) := by decide +kernel
theorem d_Mo_tryTable_109 : decode prog_14_method_19_code 109 = .ok (.iconst 0, 1) := by decide +kernel
theorem d_Mo_tryTable_110 : decode prog_14_method_19_code 110 = .ok (.istore_n 3, 1) := by decide +kernel
theorem d_Mo_tryTable_111 : decode prog_14_method_19_code 111 = .ok (.iload_n 3, 1) := by decide +kernel
theorem d_Mo_tryTable_112 : decode prog_14_method_19_code 112 = .ok (.aload_n 0, 1) := by decide +kernel
theorem d_Mo_tryTable_113 : decode prog_14_method_19_code 113 = .ok (.getfield 72, 3) := by decide +kernel
theorem d_Mo_tryTable_116 : decode prog_14_method_19_code 116 = .ok (.if_icmp .ge 43, 3) := by decide +kernel
theorem d_Mo_tryTable_119 : decode prog_14_method_19_code 119 = .ok (.iload_n 2, 1) := by decide +kernel
theorem d_Mo_tryTable_120 : decode prog_14_method_19_code 120 = .ok (.ifCond .eq 31, 3) := by decide +kernel
theorem d_Mo_tryTable_123 : decode prog_14_method_19_code 123 = .ok (.aload_n 0, 1) := by decide +kernel
theorem d_Mo_tryTable_124 : decode prog_14_method_19_code 124 = .ok (.getfield 48, 3) := by decide +kernel
theorem d_Mo_tryTable_127 : decode prog_14_method_19_code 127 = .ok (.iload_n 3, 1) := by decide +kernel
theorem d_Mo_tryTable_128 : decode prog_14_method_19_code 128 = .ok (.laload, 1) := by decide +kernel
theorem d_Mo_tryTable_129 : decode prog_14_method_19_code 129 = .ok (.lconst 0, 1) := by decide +kernel
theorem d_Mo_tryTable_130 : decode prog_14_method_19_code 130 = .ok (.lcmp, 1) := by decide +kernel
theorem d_Mo_tryTable_131 : decode prog_14_method_19_code 131 = .ok (.ifCond .lt 20, 3) := by decide +kernel
theorem d_Mo_tryTable_134 : decode prog_14_method_19_code 134 = .ok (.aload_n 0, 1) := by decide +kernel
theorem d_Mo_tryTable_135 : decode prog_14_method_19_code 135 = .ok (.getfield 48, 3) := by decide +kernel
theorem d_Mo_tryTable_138 : decode prog_14_method_19_code 138 = .ok (.iload_n 3, 1) := by decide +kernel
theorem d_Mo_tryTable_139 : decode prog_14_method_19_code 139 = .ok (.laload, 1) := by decide +kernel
theorem d_Mo_tryTable_140 : decode prog_14_method_19_code 140 = .ok (.ldc2_w 124, 3) := by decide +kernel
theorem d_Mo_tryTable_143 : decode prog_14_method_19_code 143 = .ok (.lcmp, 1) := by decide +kernel
theorem d_Mo_tryTable_144 : decode prog_14_method_19_code 144 = .ok (.ifCond .gt 7, 3) := by decide +kernel
theorem d_Mo_tryTable_147 : decode prog_14_method_19_code 147 = .ok (.iconst 1, 1) := by decide +kernel
theorem d_Mo_tryTable_148 : decode prog_14_method_19_code 148 = .ok (.goto 4, 3) := by decide +kernel
theorem d_Mo_tryTable_151 : decode prog_14_method_19_code 151 = .ok (.iconst 0, 1) := by decide +kernel
theorem d_Mo_tryTable_152 : decode prog_14_method_19_code 152 = .ok (.istore_n 2, 1) := by decide +kernel
theorem d_Mo_tryTable_153 : decode prog_14_method_19_code 153 = .ok (.iinc 3 1, 3) := by decide +kernel
theorem d_Mo_tryTable_156 : decode prog_14_method_19_code 156 = .ok (.goto (-45), 3) := by decide +kernel
theorem d_Mo_tryTable_159 : decode prog_14_method_19_code 159 = .ok (.iload_n 2, 1) := by decide +kernel
theorem d_Mo_tryTable_160 : decode prog_14_method_19_code 160 = .ok (.ifCond .eq 21, 3) := by decide +kernel
theorem d_Mo_tryTable_163 : decode prog_14_method_19_code 163 = .ok (.aload_n 0, 1) := by decide +kernel
theorem d_Mo_tryTable_164 : decode prog_14_method_19_code 164 = .ok (.bipush 12, 2) := by decide +kernel
theorem d_Mo_tryTable_166 : decode prog_14_method_19_code 166 = .ok (.iload_n 1, 1) := by decide +kernel
theorem d_Mo_tryTable_167 : decode prog_14_method_19_code 167 = .ok (.iadd, 1) := by decide +kernel
theorem d_Mo_tryTable_168 : decode prog_14_method_19_code 168 = .ok (.iconst 2, 1) := by decide +kernel
theorem d_Mo_tryTable_169 : decode prog_14_method_19_code 169 = .ok (.bipush 8, 2) := by decide +kernel
theorem d_Mo_tryTable_171 : decode prog_14_method_19_code 171 = .ok (.invokevirtual 118, 3) := by decide +kernel
theorem d_Mo_tryTable_174 : decode prog_14_method_19_code 174 = .ok (.ifCond .eq 7, 3) := by decide +kernel
theorem d_Mo_tryTable_177 : decode prog_14_method_19_code 177 = .ok (.iconst 1, 1) := by decide +kernel
theorem d_Mo_tryTable_178 : decode prog_14_method_19_code 178 = .ok (.goto 4, 3) := by decide +kernel
theorem d_Mo_tryTable_181 : decode prog_14_method_19_code 181 = .ok (.iconst 0, 1) := by decide +kernel
theorem d_Mo_tryTable_182 : decode prog_14_method_19_code 182 = .ok (.ireturn, 1) := by decide +kernel
theorem d_Mo_take_0 : decode prog_14_method_8_code 0 = .ok (.iconst 0, 1) := by decide +kernel
theorem d_Mo_take_1 : decode prog_14_method_8_code 1 = .ok (.istore_n 3, 1) := by decide +kernel
theorem d_Mo_take_2 : decode prog_14_method_8_code 2 = .ok (.iload_n 3, 1) := by decide +kernel
theorem d_Mo_take_3 : decode prog_14_method_8_code 3 = .ok (.iconst 4, 1) := by decide +kernel
theorem d_Mo_take_4 : decode prog_14_method_8_code 4 = .ok (.if_icmp .ge 22, 3) := by decide +kernel
theorem d_Mo_take_7 : decode prog_14_method_8_code 7 = .ok (.aload_n 0, 1) := by decide +kernel
theorem d_Mo_take_8 : decode prog_14_method_8_code 8 = .ok (.getfield 54, 3) := by decide +kernel
theorem d_Mo_take_11 : decode prog_14_method_8_code 11 = .ok (.iload_n 3, 1) := by decide +kernel
theorem d_Mo_take_12 : decode prog_14_method_8_code 12 = .ok (.aload_n 0, 1) := by decide +kernel
theorem d_Mo_take_13 : decode prog_14_method_8_code 13 = .ok (.iload_n 1, 1) := by decide +kernel
theorem d_Mo_take_14 : decode prog_14_method_8_code 14 = .ok (.iload_n 2, 1) := by decide +kernel
theorem d_Mo_take_15 : decode prog_14_method_8_code 15 = .ok (.iload_n 3, 1) := by decide +kernel
theorem d_Mo_take_16 : decode prog_14_method_8_code 16 = .ok (.invokevirtual 83, 3) := by decide +kernel
theorem d_Mo_take_19 : decode prog_14_method_8_code 19 = .ok (.iastore, 1) := by decide +kernel
theorem d_Mo_take_20 : decode prog_14_method_8_code 20 = .ok (.iinc 3 1, 3) := by decide +kernel
theorem d_Mo_take_23 : decode prog_14_method_8_code 23 = .ok (.goto (-21), 3) := by decide +kernel
theorem d_Mo_take_26 : decode prog_14_method_8_code 26 = .ok (.return_, 1) := by decide +kernel
theorem d_Mo_cellOf_0 : decode prog_14_method_7_code 0 = .ok (.aload_n 0, 1) := by decide +kernel
theorem d_Mo_cellOf_1 : decode prog_14_method_7_code 1 = .ok (.getfield 45, 3) := by decide +kernel
theorem d_Mo_cellOf_4 : decode prog_14_method_7_code 4 = .ok (.iconst 4, 1) := by decide +kernel
theorem d_Mo_cellOf_5 : decode prog_14_method_7_code 5 = .ok (.bipush 16, 2) := by decide +kernel
theorem d_Mo_cellOf_7 : decode prog_14_method_7_code 7 = .ok (.iload_n 1, 1) := by decide +kernel
theorem d_Mo_cellOf_8 : decode prog_14_method_7_code 8 = .ok (.imul, 1) := by decide +kernel
theorem d_Mo_cellOf_9 : decode prog_14_method_7_code 9 = .ok (.iload_n 2, 1) := by decide +kernel
theorem d_Mo_cellOf_10 : decode prog_14_method_7_code 10 = .ok (.iadd, 1) := by decide +kernel
theorem d_Mo_cellOf_11 : decode prog_14_method_7_code 11 = .ok (.imul, 1) := by decide +kernel
theorem d_Mo_cellOf_12 : decode prog_14_method_7_code 12 = .ok (.iload_n 3, 1) := by decide +kernel
theorem d_Mo_cellOf_13 : decode prog_14_method_7_code 13 = .ok (.iadd, 1) := by decide +kernel
theorem d_Mo_cellOf_14 : decode prog_14_method_7_code 14 = .ok (.iaload, 1) := by decide +kernel
theorem d_Mo_cellOf_15 : decode prog_14_method_7_code 15 = .ok (.ireturn, 1) := by decide +kernel
theorem d_Mo_gather_0 : decode prog_14_method_4_code 0 = .ok (.iconst 0, 1) := by decide +kernel
theorem d_Mo_gather_1 : decode prog_14_method_4_code 1 = .ok (.istore 4, 2) := by decide +kernel
theorem d_Mo_gather_3 : decode prog_14_method_4_code 3 = .ok (.iload 4, 2) := by decide +kernel
theorem d_Mo_gather_5 : decode prog_14_method_4_code 5 = .ok (.aload_n 0, 1) := by decide +kernel
theorem d_Mo_gather_6 : decode prog_14_method_4_code 6 = .ok (.getfield 72, 3) := by decide +kernel
theorem d_Mo_gather_9 : decode prog_14_method_4_code 9 = .ok (.if_icmp .ge 31, 3) := by decide +kernel
theorem d_Mo_gather_12 : decode prog_14_method_4_code 12 = .ok (.aload_n 0, 1) := by decide +kernel
theorem d_Mo_gather_13 : decode prog_14_method_4_code 13 = .ok (.iload 4, 2) := by decide +kernel
theorem d_Mo_gather_15 : decode prog_14_method_4_code 15 = .ok (.iload_n 1, 1) := by decide +kernel
theorem d_Mo_gather_16 : decode prog_14_method_4_code 16 = .ok (.invokevirtual 75, 3) := by decide +kernel
theorem d_Mo_gather_19 : decode prog_14_method_4_code 19 = .ok (.ifCond .eq 15, 3) := by decide +kernel
theorem d_Mo_gather_22 : decode prog_14_method_4_code 22 = .ok (.aload_n 0, 1) := by decide +kernel
theorem d_Mo_gather_23 : decode prog_14_method_4_code 23 = .ok (.getfield 48, 3) := by decide +kernel
theorem d_Mo_gather_26 : decode prog_14_method_4_code 26 = .ok (.iload 4, 2) := by decide +kernel
theorem d_Mo_gather_28 : decode prog_14_method_4_code 28 = .ok (.dup2, 1) := by decide +kernel
theorem d_Mo_gather_29 : decode prog_14_method_4_code 29 = .ok (.laload, 1) := by decide +kernel
theorem d_Mo_gather_30 : decode prog_14_method_4_code 30 = .ok (.lload_n 2, 1) := by decide +kernel
theorem d_Mo_gather_31 : decode prog_14_method_4_code 31 = .ok (.ladd, 1) := by decide +kernel
theorem d_Mo_gather_32 : decode prog_14_method_4_code 32 = .ok (.lastore, 1) := by decide +kernel
theorem d_Mo_gather_33 : decode prog_14_method_4_code 33 = .ok (.return_, 1) := by decide +kernel
theorem d_Mo_gather_34 : decode prog_14_method_4_code 34 = .ok (.iinc 4 1, 3) := by decide +kernel
theorem d_Mo_gather_37 : decode prog_14_method_4_code 37 = .ok (.goto (-34), 3) := by decide +kernel
theorem d_Mo_gather_40 : decode prog_14_method_4_code 40 = .ok (.iconst 0, 1) := by decide +kernel
theorem d_Mo_gather_41 : decode prog_14_method_4_code 41 = .ok (.istore 4, 2) := by decide +kernel
theorem d_Mo_gather_43 : decode prog_14_method_4_code 43 = .ok (.iload 4, 2) := by decide +kernel
theorem d_Mo_gather_45 : decode prog_14_method_4_code 45 = .ok (.iconst 4, 1) := by decide +kernel
theorem d_Mo_gather_46 : decode prog_14_method_4_code 46 = .ok (.if_icmp .ge 30, 3) := by decide +kernel
theorem d_Mo_gather_49 : decode prog_14_method_4_code 49 = .ok (.aload_n 0, 1) := by decide +kernel
theorem d_Mo_gather_50 : decode prog_14_method_4_code 50 = .ok (.getfield 51, 3) := by decide +kernel
theorem d_Mo_gather_53 : decode prog_14_method_4_code 53 = .ok (.iconst 4, 1) := by decide +kernel
theorem d_Mo_gather_54 : decode prog_14_method_4_code 54 = .ok (.aload_n 0, 1) := by decide +kernel
theorem d_Mo_gather_55 : decode prog_14_method_4_code 55 = .ok (.getfield 72, 3) := by decide +kernel
theorem d_Mo_gather_58 : decode prog_14_method_4_code 58 = .ok (.imul, 1) := by decide +kernel
theorem d_Mo_gather_59 : decode prog_14_method_4_code 59 = .ok (.iload 4, 2) := by decide +kernel
theorem d_Mo_gather_61 : decode prog_14_method_4_code 61 = .ok (.iadd, 1) := by decide +kernel
theorem d_Mo_gather_62 : decode prog_14_method_4_code 62 = .ok (.aload_n 0, 1) := by decide +kernel
theorem d_Mo_gather_63 : decode prog_14_method_4_code 63 = .ok (.getfield 54, 3) := by decide +kernel
theorem d_Mo_gather_66 : decode prog_14_method_4_code 66 = .ok (.iload 4, 2) := by decide +kernel
theorem d_Mo_gather_68 : decode prog_14_method_4_code 68 = .ok (.iaload, 1) := by decide +kernel
theorem d_Mo_gather_69 : decode prog_14_method_4_code 69 = .ok (.iastore, 1) := by decide +kernel
theorem d_Mo_gather_70 : decode prog_14_method_4_code 70 = .ok (.iinc 4 1, 3) := by decide +kernel
theorem d_Mo_gather_73 : decode prog_14_method_4_code 73 = .ok (.goto (-30), 3) := by decide +kernel
theorem d_Mo_gather_76 : decode prog_14_method_4_code 76 = .ok (.aload_n 0, 1) := by decide +kernel
theorem d_Mo_gather_77 : decode prog_14_method_4_code 77 = .ok (.getfield 48, 3) := by decide +kernel
theorem d_Mo_gather_80 : decode prog_14_method_4_code 80 = .ok (.aload_n 0, 1) := by decide +kernel
theorem d_Mo_gather_81 : decode prog_14_method_4_code 81 = .ok (.getfield 72, 3) := by decide +kernel
theorem d_Mo_gather_84 : decode prog_14_method_4_code 84 = .ok (.lload_n 2, 1) := by decide +kernel
theorem d_Mo_gather_85 : decode prog_14_method_4_code 85 = .ok (.lastore, 1) := by decide +kernel
theorem d_Mo_gather_86 : decode prog_14_method_4_code 86 = .ok (.aload_n 0, 1) := by decide +kernel
theorem d_Mo_gather_87 : decode prog_14_method_4_code 87 = .ok (.dup, 1) := by decide +kernel
theorem d_Mo_gather_88 : decode prog_14_method_4_code 88 = .ok (.getfield 72, 3) := by decide +kernel
theorem d_Mo_gather_91 : decode prog_14_method_4_code 91 = .ok (.iconst 1, 1) := by decide +kernel
theorem d_Mo_gather_92 : decode prog_14_method_4_code 92 = .ok (.iadd, 1) := by decide +kernel
theorem d_Mo_gather_93 : decode prog_14_method_4_code 93 = .ok (.putfield 72, 3) := by decide +kernel
theorem d_Mo_gather_96 : decode prog_14_method_4_code 96 = .ok (.return_, 1) := by decide +kernel
theorem d_Mo_isRow_0 : decode prog_14_method_3_code 0 = .ok (.iconst 1, 1) := by decide +kernel
theorem d_Mo_isRow_1 : decode prog_14_method_3_code 1 = .ok (.istore_n 3, 1) := by decide +kernel
theorem d_Mo_isRow_2 : decode prog_14_method_3_code 2 = .ok (.iconst 0, 1) := by decide +kernel
theorem d_Mo_isRow_3 : decode prog_14_method_3_code 3 = .ok (.istore 4, 2) := by decide +kernel
theorem d_Mo_isRow_5 : decode prog_14_method_3_code 5 = .ok (.iload 4, 2) := by decide +kernel
theorem d_Mo_isRow_7 : decode prog_14_method_3_code 7 = .ok (.iload_n 2, 1) := by decide +kernel
theorem d_Mo_isRow_8 : decode prog_14_method_3_code 8 = .ok (.if_icmp .ge 40, 3) := by decide +kernel
theorem d_Mo_isRow_11 : decode prog_14_method_3_code 11 = .ok (.iload_n 3, 1) := by decide +kernel
theorem d_Mo_isRow_12 : decode prog_14_method_3_code 12 = .ok (.ifCond .eq 28, 3) := by decide +kernel
theorem d_Mo_isRow_15 : decode prog_14_method_3_code 15 = .ok (.aload_n 0, 1) := by decide +kernel
theorem d_Mo_isRow_16 : decode prog_14_method_3_code 16 = .ok (.getfield 51, 3) := by decide +kernel
theorem d_Mo_isRow_19 : decode prog_14_method_3_code 19 = .ok (.iconst 4, 1) := by decide +kernel
theorem d_Mo_isRow_20 : decode prog_14_method_3_code 20 = .ok (.iload_n 1, 1) := by decide +kernel
theorem d_Mo_isRow_21 : decode prog_14_method_3_code 21 = .ok (.imul, 1) := by decide +kernel
theorem d_Mo_isRow_22 : decode prog_14_method_3_code 22 = .ok (.iload 4, 2) := by decide +kernel
theorem d_Mo_isRow_24 : decode prog_14_method_3_code 24 = .ok (.iadd, 1) := by decide +kernel
theorem d_Mo_isRow_25 : decode prog_14_method_3_code 25 = .ok (.iaload, 1) := by decide +kernel
theorem d_Mo_isRow_26 : decode prog_14_method_3_code 26 = .ok (.aload_n 0, 1) := by decide +kernel
theorem d_Mo_isRow_27 : decode prog_14_method_3_code 27 = .ok (.getfield 54, 3) := by decide +kernel
theorem d_Mo_isRow_30 : decode prog_14_method_3_code 30 = .ok (.iload 4, 2) := by decide +kernel
theorem d_Mo_isRow_32 : decode prog_14_method_3_code 32 = .ok (.iaload, 1) := by decide +kernel
theorem d_Mo_isRow_33 : decode prog_14_method_3_code 33 = .ok (.if_icmp .ne 7, 3) := by decide +kernel
theorem d_Mo_isRow_36 : decode prog_14_method_3_code 36 = .ok (.iconst 1, 1) := by decide +kernel
theorem d_Mo_isRow_37 : decode prog_14_method_3_code 37 = .ok (.goto 4, 3) := by decide +kernel
theorem d_Mo_isRow_40 : decode prog_14_method_3_code 40 = .ok (.iconst 0, 1) := by decide +kernel
theorem d_Mo_isRow_41 : decode prog_14_method_3_code 41 = .ok (.istore_n 3, 1) := by decide +kernel
theorem d_Mo_isRow_42 : decode prog_14_method_3_code 42 = .ok (.iinc 4 1, 3) := by decide +kernel
theorem d_Mo_isRow_45 : decode prog_14_method_3_code 45 = .ok (.goto (-40), 3) := by decide +kernel
theorem d_Mo_isRow_48 : decode prog_14_method_3_code 48 = .ok (.iload_n 3, 1) := by decide +kernel
theorem d_Mo_isRow_49 : decode prog_14_method_3_code 49 = .ok (.ireturn, 1) := by decide +kernel
theorem d_Mo_settle_0 : decode prog_14_method_6_code 0 = .ok (.iconst 0, 1) := by decide +kernel
theorem d_Mo_settle_1 : decode prog_14_method_6_code 1 = .ok (.istore 4, 2) := by decide +kernel
theorem d_Mo_settle_3 : decode prog_14_method_6_code 3 = .ok (.iconst 0, 1) := by decide +kernel
theorem d_Mo_settle_4 : decode prog_14_method_6_code 4 = .ok (.istore 5, 2) := by decide +kernel
theorem d_Mo_settle_6 : decode prog_14_method_6_code 6 = .ok (.iload 5, 2) := by decide +kernel
theorem d_Mo_settle_8 : decode prog_14_method_6_code 8 = .ok (.aload_n 0, 1) := by decide +kernel
theorem d_Mo_settle_9 : decode prog_14_method_6_code 9 = .ok (.getfield 72, 3) := by decide +kernel
theorem d_Mo_settle_12 : decode prog_14_method_6_code 12 = .ok (.if_icmp .ge 32, 3) := by decide +kernel
theorem d_Mo_settle_15 : decode prog_14_method_6_code 15 = .ok (.aload_n 0, 1) := by decide +kernel
theorem d_Mo_settle_16 : decode prog_14_method_6_code 16 = .ok (.getfield 48, 3) := by decide +kernel
theorem d_Mo_settle_19 : decode prog_14_method_6_code 19 = .ok (.iload 5, 2) := by decide +kernel
theorem d_Mo_settle_21 : decode prog_14_method_6_code 21 = .ok (.laload, 1) := by decide +kernel
theorem d_Mo_settle_22 : decode prog_14_method_6_code 22 = .ok (.lconst 0, 1) := by decide +kernel
theorem d_Mo_settle_23 : decode prog_14_method_6_code 23 = .ok (.lcmp, 1) := by decide +kernel
theorem d_Mo_settle_24 : decode prog_14_method_6_code 24 = .ok (.ifCond .eq 10, 3) := by decide +kernel
theorem d_Mo_settle_27 : decode prog_14_method_6_code 27 = .ok (.iload 4, 2) := by decide +kernel
theorem d_Mo_settle_29 : decode prog_14_method_6_code 29 = .ok (.iconst 1, 1) := by decide +kernel
theorem d_Mo_settle_30 : decode prog_14_method_6_code 30 = .ok (.iadd, 1) := by decide +kernel
theorem d_Mo_settle_31 : decode prog_14_method_6_code 31 = .ok (.goto 5, 3) := by decide +kernel
theorem d_Mo_settle_34 : decode prog_14_method_6_code 34 = .ok (.iload 4, 2) := by decide +kernel
theorem d_Mo_settle_36 : decode prog_14_method_6_code 36 = .ok (.istore 4, 2) := by decide +kernel
theorem d_Mo_settle_38 : decode prog_14_method_6_code 38 = .ok (.iinc 5 1, 3) := by decide +kernel
theorem d_Mo_settle_41 : decode prog_14_method_6_code 41 = .ok (.goto (-35), 3) := by decide +kernel
theorem d_Mo_settle_44 : decode prog_14_method_6_code 44 = .ok (.iload 4, 2) := by decide +kernel
theorem d_Mo_settle_46 : decode prog_14_method_6_code 46 = .ok (.iload_n 3, 1) := by decide +kernel
theorem d_Mo_settle_47 : decode prog_14_method_6_code 47 = .ok (.if_icmp .le 5, 3) := by decide +kernel
theorem d_Mo_settle_50 : decode prog_14_method_6_code 50 = .ok (.iconst 0, 1) := by decide +kernel
theorem d_Mo_settle_51 : decode prog_14_method_6_code 51 = .ok (.ireturn, 1) := by decide +kernel
theorem d_Mo_settle_52 : decode prog_14_method_6_code 52 = .ok (.aload_n 0, 1) := by decide +kernel
theorem d_Mo_settle_53 : decode prog_14_method_6_code 53 = .ok (.getfield 38, 3) := by decide +kernel
theorem d_Mo_settle_56 : decode prog_14_method_6_code 56 = .ok (.iload_n 1, 1) := by decide +kernel
theorem d_Mo_settle_57 : decode prog_14_method_6_code 57 = .ok (.iload 4, 2) := by decide +kernel
theorem d_Mo_settle_59 : decode prog_14_method_6_code 59 = .ok (.iastore, 1) := by decide +kernel
theorem d_Mo_settle_60 : decode prog_14_method_6_code 60 = .ok (.iconst 0, 1) := by decide +kernel
theorem d_Mo_settle_61 : decode prog_14_method_6_code 61 = .ok (.istore 5, 2) := by decide +kernel
theorem d_Mo_settle_63 : decode prog_14_method_6_code 63 = .ok (.iload 5, 2) := by decide +kernel
theorem d_Mo_settle_65 : decode prog_14_method_6_code 65 = .ok (.aload_n 0, 1) := by decide +kernel
theorem d_Mo_settle_66 : decode prog_14_method_6_code 66 = .ok (.getfield 72, 3) := by decide +kernel
theorem d_Mo_settle_69 : decode prog_14_method_6_code 69 = .ok (.if_icmp .ge 133, 3) := by decide +kernel
theorem d_Mo_settle_72 : decode prog_14_method_6_code 72 = .ok (.bipush 16, 2) := by decide +kernel
theorem d_Mo_settle_74 : decode prog_14_method_6_code 74 = .ok (.iload_n 1, 1) := by decide +kernel
theorem d_Mo_settle_75 : decode prog_14_method_6_code 75 = .ok (.imul, 1) := by decide +kernel
theorem d_Mo_settle_76 : decode prog_14_method_6_code 76 = .ok (.istore 6, 2) := by decide +kernel
theorem d_Mo_settle_78 : decode prog_14_method_6_code 78 = .ok (.iconst 0, 1) := by decide +kernel
theorem d_Mo_settle_79 : decode prog_14_method_6_code 79 = .ok (.istore 7, 2) := by decide +kernel
theorem d_Mo_settle_81 : decode prog_14_method_6_code 81 = .ok (.iload 7, 2) := by decide +kernel
theorem d_Mo_settle_83 : decode prog_14_method_6_code 83 = .ok (.aload_n 0, 1) := by decide +kernel
theorem d_Mo_settle_84 : decode prog_14_method_6_code 84 = .ok (.getfield 72, 3) := by decide +kernel
theorem d_Mo_settle_87 : decode prog_14_method_6_code 87 = .ok (.if_icmp .ge 44, 3) := by decide +kernel
theorem d_Mo_settle_90 : decode prog_14_method_6_code 90 = .ok (.aload_n 0, 1) := by decide +kernel
theorem d_Mo_settle_91 : decode prog_14_method_6_code 91 = .ok (.getfield 48, 3) := by decide +kernel
theorem d_Mo_settle_94 : decode prog_14_method_6_code 94 = .ok (.iload 7, 2) := by decide +kernel
theorem d_Mo_settle_96 : decode prog_14_method_6_code 96 = .ok (.laload, 1) := by decide +kernel
theorem d_Mo_settle_97 : decode prog_14_method_6_code 97 = .ok (.lconst 0, 1) := by decide +kernel
theorem d_Mo_settle_98 : decode prog_14_method_6_code 98 = .ok (.lcmp, 1) := by decide +kernel
theorem d_Mo_settle_99 : decode prog_14_method_6_code 99 = .ok (.ifCond .eq 22, 3) := by decide +kernel
theorem d_Mo_settle_102 : decode prog_14_method_6_code 102 = .ok (.aload_n 0, 1) := by decide +kernel
theorem d_Mo_settle_103 : decode prog_14_method_6_code 103 = .ok (.iload 7, 2) := by decide +kernel
theorem d_Mo_settle_105 : decode prog_14_method_6_code 105 = .ok (.iload 5, 2) := by decide +kernel
theorem d_Mo_settle_107 : decode prog_14_method_6_code 107 = .ok (.iload_n 2, 1) := by decide +kernel
theorem d_Mo_settle_108 : decode prog_14_method_6_code 108 = .ok (.invokevirtual 79, 3) := by decide +kernel
theorem d_Mo_settle_111 : decode prog_14_method_6_code 111 = .ok (.ifCond .eq 10, 3) := by decide +kernel
theorem d_Mo_settle_114 : decode prog_14_method_6_code 114 = .ok (.iload 6, 2) := by decide +kernel
theorem d_Mo_settle_116 : decode prog_14_method_6_code 116 = .ok (.iconst 1, 1) := by decide +kernel
theorem d_Mo_settle_117 : decode prog_14_method_6_code 117 = .ok (.iadd, 1) := by decide +kernel
theorem d_Mo_settle_118 : decode prog_14_method_6_code 118 = .ok (.goto 5, 3) := by decide +kernel
theorem d_Mo_settle_121 : decode prog_14_method_6_code 121 = .ok (.iload 6, 2) := by decide +kernel
theorem d_Mo_settle_123 : decode prog_14_method_6_code 123 = .ok (.istore 6, 2) := by decide +kernel
theorem d_Mo_settle_125 : decode prog_14_method_6_code 125 = .ok (.iinc 7 1, 3) := by decide +kernel
theorem d_Mo_settle_128 : decode prog_14_method_6_code 128 = .ok (.goto (-47), 3) := by decide +kernel
theorem d_Mo_settle_131 : decode prog_14_method_6_code 131 = .ok (.aload_n 0, 1) := by decide +kernel
theorem d_Mo_settle_132 : decode prog_14_method_6_code 132 = .ok (.getfield 48, 3) := by decide +kernel
theorem d_Mo_settle_135 : decode prog_14_method_6_code 135 = .ok (.iload 5, 2) := by decide +kernel
theorem d_Mo_settle_137 : decode prog_14_method_6_code 137 = .ok (.laload, 1) := by decide +kernel
theorem d_Mo_settle_138 : decode prog_14_method_6_code 138 = .ok (.lconst 0, 1) := by decide +kernel
theorem d_Mo_settle_139 : decode prog_14_method_6_code 139 = .ok (.lcmp, 1) := by decide +kernel
theorem d_Mo_settle_140 : decode prog_14_method_6_code 140 = .ok (.ifCond .eq 56, 3) := by decide +kernel
theorem d_Mo_settle_143 : decode prog_14_method_6_code 143 = .ok (.aload_n 0, 1) := by decide +kernel
theorem d_Mo_settle_144 : decode prog_14_method_6_code 144 = .ok (.getfield 41, 3) := by decide +kernel
theorem d_Mo_settle_147 : decode prog_14_method_6_code 147 = .ok (.iload 6, 2) := by decide +kernel
theorem d_Mo_settle_149 : decode prog_14_method_6_code 149 = .ok (.aload_n 0, 1) := by decide +kernel
theorem d_Mo_settle_150 : decode prog_14_method_6_code 150 = .ok (.getfield 48, 3) := by decide +kernel
theorem d_Mo_settle_153 : decode prog_14_method_6_code 153 = .ok (.iload 5, 2) := by decide +kernel
theorem d_Mo_settle_155 : decode prog_14_method_6_code 155 = .ok (.laload, 1) := by decide +kernel
theorem d_Mo_settle_156 : decode prog_14_method_6_code 156 = .ok (.lastore, 1) := by decide +kernel
theorem d_Mo_settle_157 : decode prog_14_method_6_code 157 = .ok (.iconst 0, 1) := by decide +kernel
theorem d_Mo_settle_158 : decode prog_14_method_6_code 158 = .ok (.istore 7, 2) := by decide +kernel
theorem d_Mo_settle_160 : decode prog_14_method_6_code 160 = .ok (.iload 7, 2) := by decide +kernel
theorem d_Mo_settle_162 : decode prog_14_method_6_code 162 = .ok (.iconst 4, 1) := by decide +kernel
theorem d_Mo_settle_163 : decode prog_14_method_6_code 163 = .ok (.if_icmp .ge 33, 3) := by decide +kernel
theorem d_Mo_settle_166 : decode prog_14_method_6_code 166 = .ok (.aload_n 0, 1) := by decide +kernel
theorem d_Mo_settle_167 : decode prog_14_method_6_code 167 = .ok (.getfield 45, 3) := by decide +kernel
theorem d_Mo_settle_170 : decode prog_14_method_6_code 170 = .ok (.iconst 4, 1) := by decide +kernel
theorem d_Mo_settle_171 : decode prog_14_method_6_code 171 = .ok (.iload 6, 2) := by decide +kernel
theorem d_Mo_settle_173 : decode prog_14_method_6_code 173 = .ok (.imul, 1) := by decide +kernel
theorem d_Mo_settle_174 : decode prog_14_method_6_code 174 = .ok (.iload 7, 2) := by decide +kernel
theorem d_Mo_settle_176 : decode prog_14_method_6_code 176 = .ok (.iadd, 1) := by decide +kernel
theorem d_Mo_settle_177 : decode prog_14_method_6_code 177 = .ok (.aload_n 0, 1) := by decide +kernel
theorem d_Mo_settle_178 : decode prog_14_method_6_code 178 = .ok (.getfield 51, 3) := by decide +kernel
theorem d_Mo_settle_181 : decode prog_14_method_6_code 181 = .ok (.iconst 4, 1) := by decide +kernel
theorem d_Mo_settle_182 : decode prog_14_method_6_code 182 = .ok (.iload 5, 2) := by decide +kernel
theorem d_Mo_settle_184 : decode prog_14_method_6_code 184 = .ok (.imul, 1) := by decide +kernel
theorem d_Mo_settle_185 : decode prog_14_method_6_code 185 = .ok (.iload 7, 2) := by decide +kernel
theorem d_Mo_settle_187 : decode prog_14_method_6_code 187 = .ok (.iadd, 1) := by decide +kernel
theorem d_Mo_settle_188 : decode prog_14_method_6_code 188 = .ok (.iaload, 1) := by decide +kernel
theorem d_Mo_settle_189 : decode prog_14_method_6_code 189 = .ok (.iastore, 1) := by decide +kernel
theorem d_Mo_settle_190 : decode prog_14_method_6_code 190 = .ok (.iinc 7 1, 3) := by decide +kernel
theorem d_Mo_settle_193 : decode prog_14_method_6_code 193 = .ok (.goto (-33), 3) := by decide +kernel
theorem d_Mo_settle_196 : decode prog_14_method_6_code 196 = .ok (.iinc 5 1, 3) := by decide +kernel
theorem d_Mo_settle_199 : decode prog_14_method_6_code 199 = .ok (.goto (-136), 3) := by decide +kernel
theorem d_Mo_settle_202 : decode prog_14_method_6_code 202 = .ok (.iconst 1, 1) := by decide +kernel
theorem d_Mo_settle_203 : decode prog_14_method_6_code 203 = .ok (.ireturn, 1) := by decide +kernel
theorem d_Mo_comesBefore_0 : decode prog_14_method_5_code 0 = .ok (.iconst 0, 1) := by decide +kernel
theorem d_Mo_comesBefore_1 : decode prog_14_method_5_code 1 = .ok (.istore 4, 2) := by decide +kernel
theorem d_Mo_comesBefore_3 : decode prog_14_method_5_code 3 = .ok (.iload 4, 2) := by decide +kernel
theorem d_Mo_comesBefore_5 : decode prog_14_method_5_code 5 = .ok (.iload_n 3, 1) := by decide +kernel
theorem d_Mo_comesBefore_6 : decode prog_14_method_5_code 6 = .ok (.iconst 1, 1) := by decide +kernel
theorem d_Mo_comesBefore_7 : decode prog_14_method_5_code 7 = .ok (.isub, 1) := by decide +kernel
theorem d_Mo_comesBefore_8 : decode prog_14_method_5_code 8 = .ok (.if_icmp .ge 34, 3) := by decide +kernel
theorem d_Mo_comesBefore_11 : decode prog_14_method_5_code 11 = .ok (.aload_n 0, 1) := by decide +kernel
theorem d_Mo_comesBefore_12 : decode prog_14_method_5_code 12 = .ok (.getfield 51, 3) := by decide +kernel
theorem d_Mo_comesBefore_15 : decode prog_14_method_5_code 15 = .ok (.iconst 4, 1) := by decide +kernel
theorem d_Mo_comesBefore_16 : decode prog_14_method_5_code 16 = .ok (.iload_n 1, 1) := by decide +kernel
theorem d_Mo_comesBefore_17 : decode prog_14_method_5_code 17 = .ok (.imul, 1) := by decide +kernel
theorem d_Mo_comesBefore_18 : decode prog_14_method_5_code 18 = .ok (.iload 4, 2) := by decide +kernel
theorem d_Mo_comesBefore_20 : decode prog_14_method_5_code 20 = .ok (.iadd, 1) := by decide +kernel
theorem d_Mo_comesBefore_21 : decode prog_14_method_5_code 21 = .ok (.iaload, 1) := by decide +kernel
theorem d_Mo_comesBefore_22 : decode prog_14_method_5_code 22 = .ok (.aload_n 0, 1) := by decide +kernel
theorem d_Mo_comesBefore_23 : decode prog_14_method_5_code 23 = .ok (.getfield 51, 3) := by decide +kernel
theorem d_Mo_comesBefore_26 : decode prog_14_method_5_code 26 = .ok (.iconst 4, 1) := by decide +kernel
theorem d_Mo_comesBefore_27 : decode prog_14_method_5_code 27 = .ok (.iload_n 2, 1) := by decide +kernel
theorem d_Mo_comesBefore_28 : decode prog_14_method_5_code 28 = .ok (.imul, 1) := by decide +kernel
theorem d_Mo_comesBefore_29 : decode prog_14_method_5_code 29 = .ok (.iload 4, 2) := by decide +kernel
theorem d_Mo_comesBefore_31 : decode prog_14_method_5_code 31 = .ok (.iadd, 1) := by decide +kernel
theorem d_Mo_comesBefore_32 : decode prog_14_method_5_code 32 = .ok (.iaload, 1) := by decide +kernel
theorem d_Mo_comesBefore_33 : decode prog_14_method_5_code 33 = .ok (.if_icmp .ne 9, 3) := by decide +kernel
theorem d_Mo_comesBefore_36 : decode prog_14_method_5_code 36 = .ok (.iinc 4 1, 3) := by decide +kernel
theorem d_Mo_comesBefore_39 : decode prog_14_method_5_code 39 = .ok (.goto (-36), 3) := by decide +kernel
theorem d_Mo_comesBefore_42 : decode prog_14_method_5_code 42 = .ok (.aload_n 0, 1) := by decide +kernel
theorem d_Mo_comesBefore_43 : decode prog_14_method_5_code 43 = .ok (.getfield 51, 3) := by decide +kernel
theorem d_Mo_comesBefore_46 : decode prog_14_method_5_code 46 = .ok (.iconst 4, 1) := by decide +kernel
theorem d_Mo_comesBefore_47 : decode prog_14_method_5_code 47 = .ok (.iload_n 1, 1) := by decide +kernel
theorem d_Mo_comesBefore_48 : decode prog_14_method_5_code 48 = .ok (.imul, 1) := by decide +kernel
theorem d_Mo_comesBefore_49 : decode prog_14_method_5_code 49 = .ok (.iload 4, 2) := by decide +kernel
theorem d_Mo_comesBefore_51 : decode prog_14_method_5_code 51 = .ok (.iadd, 1) := by decide +kernel
theorem d_Mo_comesBefore_52 : decode prog_14_method_5_code 52 = .ok (.iaload, 1) := by decide +kernel
theorem d_Mo_comesBefore_53 : decode prog_14_method_5_code 53 = .ok (.aload_n 0, 1) := by decide +kernel
theorem d_Mo_comesBefore_54 : decode prog_14_method_5_code 54 = .ok (.getfield 51, 3) := by decide +kernel
theorem d_Mo_comesBefore_57 : decode prog_14_method_5_code 57 = .ok (.iconst 4, 1) := by decide +kernel
theorem d_Mo_comesBefore_58 : decode prog_14_method_5_code 58 = .ok (.iload_n 2, 1) := by decide +kernel
theorem d_Mo_comesBefore_59 : decode prog_14_method_5_code 59 = .ok (.imul, 1) := by decide +kernel
theorem d_Mo_comesBefore_60 : decode prog_14_method_5_code 60 = .ok (.iload 4, 2) := by decide +kernel
theorem d_Mo_comesBefore_62 : decode prog_14_method_5_code 62 = .ok (.iadd, 1) := by decide +kernel
theorem d_Mo_comesBefore_63 : decode prog_14_method_5_code 63 = .ok (.iaload, 1) := by decide +kernel
theorem d_Mo_comesBefore_64 : decode prog_14_method_5_code 64 = .ok (.if_icmp .ge 7, 3) := by decide +kernel
theorem d_Mo_comesBefore_67 : decode prog_14_method_5_code 67 = .ok (.iconst 1, 1) := by decide +kernel
theorem d_Mo_comesBefore_68 : decode prog_14_method_5_code 68 = .ok (.goto 4, 3) := by decide +kernel
theorem d_Mo_comesBefore_71 : decode prog_14_method_5_code 71 = .ok (.iconst 0, 1) := by decide +kernel
theorem d_Mo_comesBefore_72 : decode prog_14_method_5_code 72 = .ok (.ireturn, 1) := by decide +kernel
theorem d_Mo_work_0 : decode prog_14_method_16_code 0 = .ok (.aload_n 0, 1) := by decide +kernel
theorem d_Mo_work_1 : decode prog_14_method_16_code 1 = .ok (.getfield 20, 3) := by decide +kernel
theorem d_Mo_work_4 : decode prog_14_method_16_code 4 = .ok (.iload_n 1, 1) := by decide +kernel
theorem d_Mo_work_5 : decode prog_14_method_16_code 5 = .ok (.iaload, 1) := by decide +kernel
theorem d_Mo_work_6 : decode prog_14_method_16_code 6 = .ok (.iload_n 2, 1) := by decide +kernel
theorem d_Mo_work_7 : decode prog_14_method_16_code 7 = .ok (.iadd, 1) := by decide +kernel
theorem d_Mo_work_8 : decode prog_14_method_16_code 8 = .ok (.istore_n 3, 1) := by decide +kernel
theorem d_Mo_work_9 : decode prog_14_method_16_code 9 = .ok (.aload_n 0, 1) := by decide +kernel
theorem d_Mo_work_10 : decode prog_14_method_16_code 10 = .ok (.getfield 23, 3) := by decide +kernel
theorem d_Mo_work_13 : decode prog_14_method_16_code 13 = .ok (.iload_n 1, 1) := by decide +kernel
theorem d_Mo_work_14 : decode prog_14_method_16_code 14 = .ok (.iaload, 1) := by decide +kernel
theorem d_Mo_work_15 : decode prog_14_method_16_code 15 = .ok (.iload_n 2, 1) := by decide +kernel
theorem d_Mo_work_16 : decode prog_14_method_16_code 16 = .ok (.iadd, 1) := by decide +kernel
theorem d_Mo_work_17 : decode prog_14_method_16_code 17 = .ok (.istore 4, 2) := by decide +kernel
theorem d_Mo_work_19 : decode prog_14_method_16_code 19 = .ok (.aload_n 0, 1) := by decide +kernel
theorem d_Mo_work_20 : decode prog_14_method_16_code 20 = .ok (.iconst 0, 1) := by decide +kernel
theorem d_Mo_work_21 : decode prog_14_method_16_code 21 = .ok (.putfield 72, 3) := by decide +kernel
theorem d_Mo_work_24 : decode prog_14_method_16_code 24 = .ok (.aload_n 0, 1) := by decide +kernel
theorem d_Mo_work_25 : decode prog_14_method_16_code 25 = .ok (.getfield 17, 3) := by decide +kernel
theorem d_Mo_work_28 : decode prog_14_method_16_code 28 = .ok (.iload_n 1, 1) := by decide +kernel
theorem d_Mo_work_29 : decode prog_14_method_16_code 29 = .ok (.iaload, 1) := by decide +kernel
theorem d_Mo_work_30 : decode prog_14_method_16_code 30 = .ok (.iconst 1, 1) := by decide +kernel
theorem d_Mo_work_31 : decode prog_14_method_16_code 31 = .ok (.if_icmp .ne 12, 3) := by decide +kernel
theorem d_Mo_work_34 : decode prog_14_method_16_code 34 = .ok (.aload_n 0, 1) := by decide +kernel
theorem d_Mo_work_35 : decode prog_14_method_16_code 35 = .ok (.iload_n 3, 1) := by decide +kernel
theorem d_Mo_work_36 : decode prog_14_method_16_code 36 = .ok (.iload_n 1, 1) := by decide +kernel
theorem d_Mo_work_37 : decode prog_14_method_16_code 37 = .ok (.invokevirtual 101, 3) := by decide +kernel
theorem d_Mo_work_40 : decode prog_14_method_16_code 40 = .ok (.goto 98, 3) := by decide +kernel
theorem d_Mo_work_43 : decode prog_14_method_16_code 43 = .ok (.aload_n 0, 1) := by decide +kernel
theorem d_Mo_work_44 : decode prog_14_method_16_code 44 = .ok (.getfield 17, 3) := by decide +kernel
theorem d_Mo_work_47 : decode prog_14_method_16_code 47 = .ok (.iload_n 1, 1) := by decide +kernel
theorem d_Mo_work_48 : decode prog_14_method_16_code 48 = .ok (.iaload, 1) := by decide +kernel
theorem d_Mo_work_49 : decode prog_14_method_16_code 49 = .ok (.iconst 2, 1) := by decide +kernel
theorem d_Mo_work_50 : decode prog_14_method_16_code 50 = .ok (.if_icmp .ne 12, 3) := by decide +kernel
theorem d_Mo_work_53 : decode prog_14_method_16_code 53 = .ok (.aload_n 0, 1) := by decide +kernel
theorem d_Mo_work_54 : decode prog_14_method_16_code 54 = .ok (.iload_n 3, 1) := by decide +kernel
theorem d_Mo_work_55 : decode prog_14_method_16_code 55 = .ok (.iload_n 1, 1) := by decide +kernel
theorem d_Mo_work_56 : decode prog_14_method_16_code 56 = .ok (.invokevirtual 104, 3) := by decide +kernel
theorem d_Mo_work_59 : decode prog_14_method_16_code 59 = .ok (.goto 79, 3) := by decide +kernel
theorem d_Mo_work_62 : decode prog_14_method_16_code 62 = .ok (.aload_n 0, 1) := by decide +kernel
theorem d_Mo_work_63 : decode prog_14_method_16_code 63 = .ok (.getfield 17, 3) := by decide +kernel
theorem d_Mo_work_66 : decode prog_14_method_16_code 66 = .ok (.iload_n 1, 1) := by decide +kernel
theorem d_Mo_work_67 : decode prog_14_method_16_code 67 = .ok (.iaload, 1) := by decide +kernel
theorem d_Mo_work_68 : decode prog_14_method_16_code 68 = .ok (.iconst 3, 1) := by decide +kernel
theorem d_Mo_work_69 : decode prog_14_method_16_code 69 = .ok (.if_icmp .ne 14, 3) := by decide +kernel
theorem d_Mo_work_72 : decode prog_14_method_16_code 72 = .ok (.aload_n 0, 1) := by decide +kernel
theorem d_Mo_work_73 : decode prog_14_method_16_code 73 = .ok (.iload_n 3, 1) := by decide +kernel
theorem d_Mo_work_74 : decode prog_14_method_16_code 74 = .ok (.iload 4, 2) := by decide +kernel
theorem d_Mo_work_76 : decode prog_14_method_16_code 76 = .ok (.iload_n 1, 1) := by decide +kernel
theorem d_Mo_work_77 : decode prog_14_method_16_code 77 = .ok (.invokevirtual 107, 3) := by decide +kernel
theorem d_Mo_work_80 : decode prog_14_method_16_code 80 = .ok (.goto 58, 3) := by decide +kernel
theorem d_Mo_work_83 : decode prog_14_method_16_code 83 = .ok (.aload_n 0, 1) := by decide +kernel
theorem d_Mo_work_84 : decode prog_14_method_16_code 84 = .ok (.getfield 17, 3) := by decide +kernel
theorem d_Mo_work_87 : decode prog_14_method_16_code 87 = .ok (.iload_n 1, 1) := by decide +kernel
theorem d_Mo_work_88 : decode prog_14_method_16_code 88 = .ok (.iaload, 1) := by decide +kernel
theorem d_Mo_work_89 : decode prog_14_method_16_code 89 = .ok (.iconst 4, 1) := by decide +kernel
theorem d_Mo_work_90 : decode prog_14_method_16_code 90 = .ok (.if_icmp .ne 21, 3) := by decide +kernel
theorem d_Mo_work_93 : decode prog_14_method_16_code 93 = .ok (.aload_n 0, 1) := by decide +kernel
theorem d_Mo_work_94 : decode prog_14_method_16_code 94 = .ok (.iload_n 3, 1) := by decide +kernel
theorem d_Mo_work_95 : decode prog_14_method_16_code 95 = .ok (.iload_n 1, 1) := by decide +kernel
theorem d_Mo_work_96 : decode prog_14_method_16_code 96 = .ok (.iconst 0, 1) := by decide +kernel
theorem d_Mo_work_97 : decode prog_14_method_16_code 97 = .ok (.invokevirtual 111, 3) := by decide +kernel
theorem d_Mo_work_100 : decode prog_14_method_16_code 100 = .ok (.aload_n 0, 1) := by decide +kernel
theorem d_Mo_work_101 : decode prog_14_method_16_code 101 = .ok (.iload 4, 2) := by decide +kernel
theorem d_Mo_work_103 : decode prog_14_method_16_code 103 = .ok (.iload_n 1, 1) := by decide +kernel
theorem d_Mo_work_104 : decode prog_14_method_16_code 104 = .ok (.iconst 0, 1) := by decide +kernel
theorem d_Mo_work_105 : decode prog_14_method_16_code 105 = .ok (.invokevirtual 111, 3) := by decide +kernel
theorem d_Mo_work_108 : decode prog_14_method_16_code 108 = .ok (.goto 30, 3) := by decide +kernel
theorem d_Mo_work_111 : decode prog_14_method_16_code 111 = .ok (.aload_n 0, 1) := by decide +kernel
theorem d_Mo_work_112 : decode prog_14_method_16_code 112 = .ok (.getfield 17, 3) := by decide +kernel
theorem d_Mo_work_115 : decode prog_14_method_16_code 115 = .ok (.iload_n 1, 1) := by decide +kernel
theorem d_Mo_work_116 : decode prog_14_method_16_code 116 = .ok (.iaload, 1) := by decide +kernel
theorem d_Mo_work_117 : decode prog_14_method_16_code 117 = .ok (.bipush 8, 2) := by decide +kernel
theorem d_Mo_work_119 : decode prog_14_method_16_code 119 = .ok (.if_icmp .ne 13, 3) := by decide +kernel
theorem d_Mo_work_122 : decode prog_14_method_16_code 122 = .ok (.aload_n 0, 1) := by decide +kernel
theorem d_Mo_work_123 : decode prog_14_method_16_code 123 = .ok (.iload_n 3, 1) := by decide +kernel
theorem d_Mo_work_124 : decode prog_14_method_16_code 124 = .ok (.iload_n 1, 1) := by decide +kernel
theorem d_Mo_work_125 : decode prog_14_method_16_code 125 = .ok (.iconst 1, 1) := by decide +kernel
theorem d_Mo_work_126 : decode prog_14_method_16_code 126 = .ok (.invokevirtual 111, 3) := by decide +kernel
theorem d_Mo_work_129 : decode prog_14_method_16_code 129 = .ok (.goto 9, 3) := by decide +kernel
theorem d_Mo_work_132 : decode prog_14_method_16_code 132 = .ok (.aload_n 0, 1) := by decide +kernel
theorem d_Mo_work_133 : decode prog_14_method_16_code 133 = .ok (.iload_n 3, 1) := by decide +kernel
theorem d_Mo_work_134 : decode prog_14_method_16_code 134 = .ok (.iload_n 1, 1) := by decide +kernel
theorem d_Mo_work_135 : decode prog_14_method_16_code 135 = .ok (.invokevirtual 115, 3) := by decide +kernel
theorem d_Mo_work_138 : decode prog_14_method_16_code 138 = .ok (.aload_n 0, 1) := by decide +kernel
theorem d_Mo_work_139 : decode prog_14_method_16_code 139 = .ok (.iload_n 1, 1) := by decide +kernel
theorem d_Mo_work_140 : decode prog_14_method_16_code 140 = .ok (.iload_n 2, 1) := by decide +kernel
theorem d_Mo_work_141 : decode prog_14_method_16_code 141 = .ok (.iadd, 1) := by decide +kernel
theorem d_Mo_work_142 : decode prog_14_method_16_code 142 = .ok (.aload_n 0, 1) := by decide +kernel
theorem d_Mo_work_143 : decode prog_14_method_16_code 143 = .ok (.getfield 13, 3) := by decide +kernel
theorem d_Mo_work_146 : decode prog_14_method_16_code 146 = .ok (.iload_n 1, 1) := by decide +kernel
theorem d_Mo_work_147 : decode prog_14_method_16_code 147 = .ok (.iaload, 1) := by decide +kernel
theorem d_Mo_work_148 : decode prog_14_method_16_code 148 = .ok (.bipush 16, 2) := by decide +kernel
theorem d_Mo_work_150 : decode prog_14_method_16_code 150 = .ok (.invokevirtual 118, 3) := by decide +kernel
theorem d_Mo_work_153 : decode prog_14_method_16_code 153 = .ok (.ireturn, 1) := by decide +kernel
theorem d_Mo_selects_0 : decode prog_14_method_10_code 0 = .ok (.iconst 0, 1) := by decide +kernel
theorem d_Mo_selects_1 : decode prog_14_method_10_code 1 = .ok (.istore_n 3, 1) := by decide +kernel
theorem d_Mo_selects_2 : decode prog_14_method_10_code 2 = .ok (.iload_n 3, 1) := by decide +kernel
theorem d_Mo_selects_3 : decode prog_14_method_10_code 3 = .ok (.aload_n 0, 1) := by decide +kernel
theorem d_Mo_selects_4 : decode prog_14_method_10_code 4 = .ok (.getfield 38, 3) := by decide +kernel
theorem d_Mo_selects_7 : decode prog_14_method_10_code 7 = .ok (.iload_n 1, 1) := by decide +kernel
theorem d_Mo_selects_8 : decode prog_14_method_10_code 8 = .ok (.iaload, 1) := by decide +kernel
theorem d_Mo_selects_9 : decode prog_14_method_10_code 9 = .ok (.if_icmp .ge 66, 3) := by decide +kernel
theorem d_Mo_selects_12 : decode prog_14_method_10_code 12 = .ok (.aload_n 0, 1) := by decide +kernel
theorem d_Mo_selects_13 : decode prog_14_method_10_code 13 = .ok (.iload_n 1, 1) := by decide +kernel
theorem d_Mo_selects_14 : decode prog_14_method_10_code 14 = .ok (.iload_n 3, 1) := by decide +kernel
theorem d_Mo_selects_15 : decode prog_14_method_10_code 15 = .ok (.aload_n 0, 1) := by decide +kernel
theorem d_Mo_selects_16 : decode prog_14_method_10_code 16 = .ok (.getfield 26, 3) := by decide +kernel
theorem d_Mo_selects_19 : decode prog_14_method_10_code 19 = .ok (.iload_n 2, 1) := by decide +kernel
theorem d_Mo_selects_20 : decode prog_14_method_10_code 20 = .ok (.iaload, 1) := by decide +kernel
theorem d_Mo_selects_21 : decode prog_14_method_10_code 21 = .ok (.invokevirtual 83, 3) := by decide +kernel
theorem d_Mo_selects_24 : decode prog_14_method_10_code 24 = .ok (.aload_n 0, 1) := by decide +kernel
theorem d_Mo_selects_25 : decode prog_14_method_10_code 25 = .ok (.getfield 29, 3) := by decide +kernel
theorem d_Mo_selects_28 : decode prog_14_method_10_code 28 = .ok (.iload_n 2, 1) := by decide +kernel
theorem d_Mo_selects_29 : decode prog_14_method_10_code 29 = .ok (.iaload, 1) := by decide +kernel
theorem d_Mo_selects_30 : decode prog_14_method_10_code 30 = .ok (.aload_n 0, 1) := by decide +kernel
theorem d_Mo_selects_31 : decode prog_14_method_10_code 31 = .ok (.getfield 32, 3) := by decide +kernel
theorem d_Mo_selects_34 : decode prog_14_method_10_code 34 = .ok (.iload_n 2, 1) := by decide +kernel
theorem d_Mo_selects_35 : decode prog_14_method_10_code 35 = .ok (.iaload, 1) := by decide +kernel
theorem d_Mo_selects_36 : decode prog_14_method_10_code 36 = .ok (.invokestatic 87, 3) := by decide +kernel
theorem d_Mo_selects_39 : decode prog_14_method_10_code 39 = .ok (.ifCond .eq 30, 3) := by decide +kernel
theorem d_Mo_selects_42 : decode prog_14_method_10_code 42 = .ok (.aload_n 0, 1) := by decide +kernel
theorem d_Mo_selects_43 : decode prog_14_method_10_code 43 = .ok (.iload_n 1, 1) := by decide +kernel
theorem d_Mo_selects_44 : decode prog_14_method_10_code 44 = .ok (.iload_n 3, 1) := by decide +kernel
theorem d_Mo_selects_45 : decode prog_14_method_10_code 45 = .ok (.invokevirtual 90, 3) := by decide +kernel
theorem d_Mo_selects_48 : decode prog_14_method_10_code 48 = .ok (.aload_n 0, 1) := by decide +kernel
theorem d_Mo_selects_49 : decode prog_14_method_10_code 49 = .ok (.aload_n 0, 1) := by decide +kernel
theorem d_Mo_selects_50 : decode prog_14_method_10_code 50 = .ok (.getfield 13, 3) := by decide +kernel
theorem d_Mo_selects_53 : decode prog_14_method_10_code 53 = .ok (.iload_n 2, 1) := by decide +kernel
theorem d_Mo_selects_54 : decode prog_14_method_10_code 54 = .ok (.iaload, 1) := by decide +kernel
theorem d_Mo_selects_55 : decode prog_14_method_10_code 55 = .ok (.aload_n 0, 1) := by decide +kernel
theorem d_Mo_selects_56 : decode prog_14_method_10_code 56 = .ok (.getfield 41, 3) := by decide +kernel
theorem d_Mo_selects_59 : decode prog_14_method_10_code 59 = .ok (.bipush 16, 2) := by decide +kernel
theorem d_Mo_selects_61 : decode prog_14_method_10_code 61 = .ok (.iload_n 1, 1) := by decide +kernel
theorem d_Mo_selects_62 : decode prog_14_method_10_code 62 = .ok (.imul, 1) := by decide +kernel
theorem d_Mo_selects_63 : decode prog_14_method_10_code 63 = .ok (.iload_n 3, 1) := by decide +kernel
theorem d_Mo_selects_64 : decode prog_14_method_10_code 64 = .ok (.iadd, 1) := by decide +kernel
theorem d_Mo_selects_65 : decode prog_14_method_10_code 65 = .ok (.laload, 1) := by decide +kernel
theorem d_Mo_selects_66 : decode prog_14_method_10_code 66 = .ok (.invokevirtual 94, 3) := by decide +kernel
theorem d_Mo_selects_69 : decode prog_14_method_10_code 69 = .ok (.iinc 3 1, 3) := by decide +kernel
theorem d_Mo_selects_72 : decode prog_14_method_10_code 72 = .ok (.goto (-70), 3) := by decide +kernel
theorem d_Mo_selects_75 : decode prog_14_method_10_code 75 = .ok (.return_, 1) := by decide +kernel
theorem d_Mo_passes_0 : decode prog_14_method_9_code 0 = .ok (.iload_n 1, 1) := by decide +kernel
theorem d_Mo_passes_1 : decode prog_14_method_9_code 1 = .ok (.ifCond .ne 16, 3) := by decide +kernel
theorem d_Mo_passes_4 : decode prog_14_method_9_code 4 = .ok (.iload_n 0, 1) := by decide +kernel
theorem d_Mo_passes_5 : decode prog_14_method_9_code 5 = .ok (.iload_n 2, 1) := by decide +kernel
theorem d_Mo_passes_6 : decode prog_14_method_9_code 6 = .ok (.if_icmp .ge 7, 3) := by decide +kernel
theorem d_Mo_passes_9 : decode prog_14_method_9_code 9 = .ok (.iconst 1, 1) := by decide +kernel
theorem d_Mo_passes_10 : decode prog_14_method_9_code 10 = .ok (.goto 35, 3) := by decide +kernel
theorem d_Mo_passes_13 : decode prog_14_method_9_code 13 = .ok (.iconst 0, 1) := by decide +kernel
theorem d_Mo_passes_14 : decode prog_14_method_9_code 14 = .ok (.goto 31, 3) := by decide +kernel
theorem d_Mo_passes_17 : decode prog_14_method_9_code 17 = .ok (.iload_n 1, 1) := by decide +kernel
theorem d_Mo_passes_18 : decode prog_14_method_9_code 18 = .ok (.iconst 1, 1) := by decide +kernel
theorem d_Mo_passes_19 : decode prog_14_method_9_code 19 = .ok (.if_icmp .ne 16, 3) := by decide +kernel
theorem d_Mo_passes_22 : decode prog_14_method_9_code 22 = .ok (.iload_n 0, 1) := by decide +kernel
theorem d_Mo_passes_23 : decode prog_14_method_9_code 23 = .ok (.iload_n 2, 1) := by decide +kernel
theorem d_Mo_passes_24 : decode prog_14_method_9_code 24 = .ok (.if_icmp .ne 7, 3) := by decide +kernel
theorem d_Mo_passes_27 : decode prog_14_method_9_code 27 = .ok (.iconst 1, 1) := by decide +kernel
theorem d_Mo_passes_28 : decode prog_14_method_9_code 28 = .ok (.goto 17, 3) := by decide +kernel
theorem d_Mo_passes_31 : decode prog_14_method_9_code 31 = .ok (.iconst 0, 1) := by decide +kernel
theorem d_Mo_passes_32 : decode prog_14_method_9_code 32 = .ok (.goto 13, 3) := by decide +kernel
theorem d_Mo_passes_35 : decode prog_14_method_9_code 35 = .ok (.iload_n 0, 1) := by decide +kernel
theorem d_Mo_passes_36 : decode prog_14_method_9_code 36 = .ok (.iload_n 2, 1) := by decide +kernel
theorem d_Mo_passes_37 : decode prog_14_method_9_code 37 = .ok (.if_icmp .le 7, 3) := by decide +kernel
theorem d_Mo_passes_40 : decode prog_14_method_9_code 40 = .ok (.iconst 1, 1) := by decide +kernel
theorem d_Mo_passes_41 : decode prog_14_method_9_code 41 = .ok (.goto 4, 3) := by decide +kernel
theorem d_Mo_passes_44 : decode prog_14_method_9_code 44 = .ok (.iconst 0, 1) := by decide +kernel
theorem d_Mo_passes_45 : decode prog_14_method_9_code 45 = .ok (.ireturn, 1) := by decide +kernel
theorem d_Mo_projects_0 : decode prog_14_method_11_code 0 = .ok (.iconst 0, 1) := by decide +kernel
theorem d_Mo_projects_1 : decode prog_14_method_11_code 1 = .ok (.istore_n 3, 1) := by decide +kernel
theorem d_Mo_projects_2 : decode prog_14_method_11_code 2 = .ok (.iload_n 3, 1) := by decide +kernel
theorem d_Mo_projects_3 : decode prog_14_method_11_code 3 = .ok (.aload_n 0, 1) := by decide +kernel
theorem d_Mo_projects_4 : decode prog_14_method_11_code 4 = .ok (.getfield 38, 3) := by decide +kernel
theorem d_Mo_projects_7 : decode prog_14_method_11_code 7 = .ok (.iload_n 1, 1) := by decide +kernel
theorem d_Mo_projects_8 : decode prog_14_method_11_code 8 = .ok (.iaload, 1) := by decide +kernel
theorem d_Mo_projects_9 : decode prog_14_method_11_code 9 = .ok (.if_icmp .ge 77, 3) := by decide +kernel
theorem d_Mo_projects_12 : decode prog_14_method_11_code 12 = .ok (.iconst 0, 1) := by decide +kernel
theorem d_Mo_projects_13 : decode prog_14_method_11_code 13 = .ok (.istore 4, 2) := by decide +kernel
theorem d_Mo_projects_15 : decode prog_14_method_11_code 15 = .ok (.iload 4, 2) := by decide +kernel
theorem d_Mo_projects_17 : decode prog_14_method_11_code 17 = .ok (.aload_n 0, 1) := by decide +kernel
theorem d_Mo_projects_18 : decode prog_14_method_11_code 18 = .ok (.getfield 13, 3) := by decide +kernel
theorem d_Mo_projects_21 : decode prog_14_method_11_code 21 = .ok (.iload_n 2, 1) := by decide +kernel
theorem d_Mo_projects_22 : decode prog_14_method_11_code 22 = .ok (.iaload, 1) := by decide +kernel
theorem d_Mo_projects_23 : decode prog_14_method_11_code 23 = .ok (.if_icmp .ge 36, 3) := by decide +kernel
theorem d_Mo_projects_26 : decode prog_14_method_11_code 26 = .ok (.aload_n 0, 1) := by decide +kernel
theorem d_Mo_projects_27 : decode prog_14_method_11_code 27 = .ok (.getfield 54, 3) := by decide +kernel
theorem d_Mo_projects_30 : decode prog_14_method_11_code 30 = .ok (.iload 4, 2) := by decide +kernel
theorem d_Mo_projects_32 : decode prog_14_method_11_code 32 = .ok (.aload_n 0, 1) := by decide +kernel
theorem d_Mo_projects_33 : decode prog_14_method_11_code 33 = .ok (.iload_n 1, 1) := by decide +kernel
theorem d_Mo_projects_34 : decode prog_14_method_11_code 34 = .ok (.iload_n 3, 1) := by decide +kernel
theorem d_Mo_projects_35 : decode prog_14_method_11_code 35 = .ok (.aload_n 0, 1) := by decide +kernel
theorem d_Mo_projects_36 : decode prog_14_method_11_code 36 = .ok (.getfield 26, 3) := by decide +kernel
theorem d_Mo_projects_39 : decode prog_14_method_11_code 39 = .ok (.iload_n 2, 1) := by decide +kernel
theorem d_Mo_projects_40 : decode prog_14_method_11_code 40 = .ok (.iaload, 1) := by decide +kernel
theorem d_Mo_projects_41 : decode prog_14_method_11_code 41 = .ok (.iconst 4, 1) := by decide +kernel
theorem d_Mo_projects_42 : decode prog_14_method_11_code 42 = .ok (.iload 4, 2) := by decide +kernel
theorem d_Mo_projects_44 : decode prog_14_method_11_code 44 = .ok (.imul, 1) := by decide +kernel
theorem d_Mo_projects_45 : decode prog_14_method_11_code 45 = .ok (.ishr, 1) := by decide +kernel
theorem d_Mo_projects_46 : decode prog_14_method_11_code 46 = .ok (.bipush 15, 2) := by decide +kernel
theorem d_Mo_projects_48 : decode prog_14_method_11_code 48 = .ok (.iand, 1) := by decide +kernel
theorem d_Mo_projects_49 : decode prog_14_method_11_code 49 = .ok (.invokevirtual 83, 3) := by decide +kernel
theorem d_Mo_projects_52 : decode prog_14_method_11_code 52 = .ok (.iastore, 1) := by decide +kernel
theorem d_Mo_projects_53 : decode prog_14_method_11_code 53 = .ok (.iinc 4 1, 3) := by decide +kernel
theorem d_Mo_projects_56 : decode prog_14_method_11_code 56 = .ok (.goto (-41), 3) := by decide +kernel
theorem d_Mo_projects_59 : decode prog_14_method_11_code 59 = .ok (.aload_n 0, 1) := by decide +kernel
theorem d_Mo_projects_60 : decode prog_14_method_11_code 60 = .ok (.aload_n 0, 1) := by decide +kernel
theorem d_Mo_projects_61 : decode prog_14_method_11_code 61 = .ok (.getfield 13, 3) := by decide +kernel
theorem d_Mo_projects_64 : decode prog_14_method_11_code 64 = .ok (.iload_n 2, 1) := by decide +kernel
theorem d_Mo_projects_65 : decode prog_14_method_11_code 65 = .ok (.iaload, 1) := by decide +kernel
theorem d_Mo_projects_66 : decode prog_14_method_11_code 66 = .ok (.aload_n 0, 1) := by decide +kernel
theorem d_Mo_projects_67 : decode prog_14_method_11_code 67 = .ok (.getfield 41, 3) := by decide +kernel
theorem d_Mo_projects_70 : decode prog_14_method_11_code 70 = .ok (.bipush 16, 2) := by decide +kernel
theorem d_Mo_projects_72 : decode prog_14_method_11_code 72 = .ok (.iload_n 1, 1) := by decide +kernel
theorem d_Mo_projects_73 : decode prog_14_method_11_code 73 = .ok (.imul, 1) := by decide +kernel
theorem d_Mo_projects_74 : decode prog_14_method_11_code 74 = .ok (.iload_n 3, 1) := by decide +kernel
theorem d_Mo_projects_75 : decode prog_14_method_11_code 75 = .ok (.iadd, 1) := by decide +kernel
theorem d_Mo_projects_76 : decode prog_14_method_11_code 76 = .ok (.laload, 1) := by decide +kernel
theorem d_Mo_projects_77 : decode prog_14_method_11_code 77 = .ok (.invokevirtual 94, 3) := by decide +kernel
theorem d_Mo_projects_80 : decode prog_14_method_11_code 80 = .ok (.iinc 3 1, 3) := by decide +kernel
theorem d_Mo_projects_83 : decode prog_14_method_11_code 83 = .ok (.goto (-81), 3) := by decide +kernel
theorem d_Mo_projects_86 : decode prog_14_method_11_code 86 = .ok (.return_, 1) := by decide +kernel
theorem d_Mo_joins_0 : decode prog_14_method_12_code 0 = .ok (.aload_n 0, 1) := by decide +kernel
theorem d_Mo_joins_1 : decode prog_14_method_12_code 1 = .ok (.getfield 13, 3) := by decide +kernel
theorem d_Mo_joins_4 : decode prog_14_method_12_code 4 = .ok (.aload_n 0, 1) := by decide +kernel
theorem d_Mo_joins_5 : decode prog_14_method_12_code 5 = .ok (.getfield 20, 3) := by decide +kernel
theorem d_Mo_joins_8 : decode prog_14_method_12_code 8 = .ok (.iload_n 3, 1) := by decide +kernel
theorem d_Mo_joins_9 : decode prog_14_method_12_code 9 = .ok (.iaload, 1) := by decide +kernel
theorem d_Mo_joins_10 : decode prog_14_method_12_code 10 = .ok (.iaload, 1) := by decide +kernel
theorem d_Mo_joins_11 : decode prog_14_method_12_code 11 = .ok (.istore 4, 2) := by decide +kernel
theorem d_Mo_joins_13 : decode prog_14_method_12_code 13 = .ok (.iconst 0, 1) := by decide +kernel
theorem d_Mo_joins_14 : decode prog_14_method_12_code 14 = .ok (.istore 5, 2) := by decide +kernel
theorem d_Mo_joins_16 : decode prog_14_method_12_code 16 = .ok (.iload 5, 2) := by decide +kernel
theorem d_Mo_joins_18 : decode prog_14_method_12_code 18 = .ok (.aload_n 0, 1) := by decide +kernel
theorem d_Mo_joins_19 : decode prog_14_method_12_code 19 = .ok (.getfield 38, 3) := by decide +kernel
theorem d_Mo_joins_22 : decode prog_14_method_12_code 22 = .ok (.iload_n 1, 1) := by decide +kernel
theorem d_Mo_joins_23 : decode prog_14_method_12_code 23 = .ok (.iaload, 1) := by decide +kernel
theorem d_Mo_joins_24 : decode prog_14_method_12_code 24 = .ok (.if_icmp .ge 151, 3) := by decide +kernel
theorem d_Mo_joins_27 : decode prog_14_method_12_code 27 = .ok (.iconst 0, 1) := by decide +kernel
theorem d_Mo_joins_28 : decode prog_14_method_12_code 28 = .ok (.istore 6, 2) := by decide +kernel
theorem d_Mo_joins_30 : decode prog_14_method_12_code 30 = .ok (.iload 6, 2) := by decide +kernel
theorem d_Mo_joins_32 : decode prog_14_method_12_code 32 = .ok (.aload_n 0, 1) := by decide +kernel
theorem d_Mo_joins_33 : decode prog_14_method_12_code 33 = .ok (.getfield 38, 3) := by decide +kernel
theorem d_Mo_joins_36 : decode prog_14_method_12_code 36 = .ok (.iload_n 2, 1) := by decide +kernel
theorem d_Mo_joins_37 : decode prog_14_method_12_code 37 = .ok (.iaload, 1) := by decide +kernel
theorem d_Mo_joins_38 : decode prog_14_method_12_code 38 = .ok (.if_icmp .ge 131, 3) := by decide +kernel
theorem d_Mo_joins_41 : decode prog_14_method_12_code 41 = .ok (.aload_n 0, 1) := by decide +kernel
theorem d_Mo_joins_42 : decode prog_14_method_12_code 42 = .ok (.iload_n 1, 1) := by decide +kernel
theorem d_Mo_joins_43 : decode prog_14_method_12_code 43 = .ok (.iload 5, 2) := by decide +kernel
theorem d_Mo_joins_45 : decode prog_14_method_12_code 45 = .ok (.aload_n 0, 1) := by decide +kernel
theorem d_Mo_joins_46 : decode prog_14_method_12_code 46 = .ok (.getfield 26, 3) := by decide +kernel
theorem d_Mo_joins_49 : decode prog_14_method_12_code 49 = .ok (.iload_n 3, 1) := by decide +kernel
theorem d_Mo_joins_50 : decode prog_14_method_12_code 50 = .ok (.iaload, 1) := by decide +kernel
theorem d_Mo_joins_51 : decode prog_14_method_12_code 51 = .ok (.invokevirtual 83, 3) := by decide +kernel
theorem d_Mo_joins_54 : decode prog_14_method_12_code 54 = .ok (.aload_n 0, 1) := by decide +kernel
theorem d_Mo_joins_55 : decode prog_14_method_12_code 55 = .ok (.iload_n 2, 1) := by decide +kernel
theorem d_Mo_joins_56 : decode prog_14_method_12_code 56 = .ok (.iload 6, 2) := by decide +kernel
theorem d_Mo_joins_58 : decode prog_14_method_12_code 58 = .ok (.aload_n 0, 1) := by decide +kernel
theorem d_Mo_joins_59 : decode prog_14_method_12_code 59 = .ok (.getfield 29, 3) := by decide +kernel
theorem d_Mo_joins_62 : decode prog_14_method_12_code 62 = .ok (.iload_n 3, 1) := by decide +kernel
theorem d_Mo_joins_63 : decode prog_14_method_12_code 63 = .ok (.iaload, 1) := by decide +kernel
theorem d_Mo_joins_64 : decode prog_14_method_12_code 64 = .ok (.invokevirtual 83, 3) := by decide +kernel
theorem d_Mo_joins_67 : decode prog_14_method_12_code 67 = .ok (.if_icmp .ne 96, 3) := by decide +kernel
theorem d_Mo_joins_70 : decode prog_14_method_12_code 70 = .ok (.iconst 0, 1) := by decide +kernel
theorem d_Mo_joins_71 : decode prog_14_method_12_code 71 = .ok (.istore 7, 2) := by decide +kernel
theorem d_Mo_joins_73 : decode prog_14_method_12_code 73 = .ok (.iload 7, 2) := by decide +kernel
theorem d_Mo_joins_75 : decode prog_14_method_12_code 75 = .ok (.aload_n 0, 1) := by decide +kernel
theorem d_Mo_joins_76 : decode prog_14_method_12_code 76 = .ok (.getfield 13, 3) := by decide +kernel
theorem d_Mo_joins_79 : decode prog_14_method_12_code 79 = .ok (.iload_n 3, 1) := by decide +kernel
theorem d_Mo_joins_80 : decode prog_14_method_12_code 80 = .ok (.iaload, 1) := by decide +kernel
theorem d_Mo_joins_81 : decode prog_14_method_12_code 81 = .ok (.if_icmp .ge 47, 3) := by decide +kernel
theorem d_Mo_joins_84 : decode prog_14_method_12_code 84 = .ok (.aload_n 0, 1) := by decide +kernel
theorem d_Mo_joins_85 : decode prog_14_method_12_code 85 = .ok (.getfield 54, 3) := by decide +kernel
theorem d_Mo_joins_88 : decode prog_14_method_12_code 88 = .ok (.iload 7, 2) := by decide +kernel
theorem d_Mo_joins_90 : decode prog_14_method_12_code 90 = .ok (.iload 7, 2) := by decide +kernel
theorem d_Mo_joins_92 : decode prog_14_method_12_code 92 = .ok (.iload 4, 2) := by decide +kernel
theorem d_Mo_joins_94 : decode prog_14_method_12_code 94 = .ok (.if_icmp .ge 15, 3) := by decide +kernel
theorem d_Mo_joins_97 : decode prog_14_method_12_code 97 = .ok (.aload_n 0, 1) := by decide +kernel
theorem d_Mo_joins_98 : decode prog_14_method_12_code 98 = .ok (.iload_n 1, 1) := by decide +kernel
theorem d_Mo_joins_99 : decode prog_14_method_12_code 99 = .ok (.iload 5, 2) := by decide +kernel
theorem d_Mo_joins_101 : decode prog_14_method_12_code 101 = .ok (.iload 7, 2) := by decide +kernel
theorem d_Mo_joins_103 : decode prog_14_method_12_code 103 = .ok (.invokevirtual 83, 3) := by decide +kernel
theorem d_Mo_joins_106 : decode prog_14_method_12_code 106 = .ok (.goto 15, 3) := by decide +kernel
theorem d_Mo_joins_109 : decode prog_14_method_12_code 109 = .ok (.aload_n 0, 1) := by decide +kernel
theorem d_Mo_joins_110 : decode prog_14_method_12_code 110 = .ok (.iload_n 2, 1) := by decide +kernel
theorem d_Mo_joins_111 : decode prog_14_method_12_code 111 = .ok (.iload 6, 2) := by decide +kernel
theorem d_Mo_joins_113 : decode prog_14_method_12_code 113 = .ok (.iload 7, 2) := by decide +kernel
theorem d_Mo_joins_115 : decode prog_14_method_12_code 115 = .ok (.iload 4, 2) := by decide +kernel
theorem d_Mo_joins_117 : decode prog_14_method_12_code 117 = .ok (.isub, 1) := by decide +kernel
theorem d_Mo_joins_118 : decode prog_14_method_12_code 118 = .ok (.invokevirtual 83, 3) := by decide +kernel
theorem d_Mo_joins_121 : decode prog_14_method_12_code 121 = .ok (.iastore, 1) := by decide +kernel
theorem d_Mo_joins_122 : decode prog_14_method_12_code 122 = .ok (.iinc 7 1, 3) := by decide +kernel
theorem d_Mo_joins_125 : decode prog_14_method_12_code 125 = .ok (.goto (-52), 3) := by decide +kernel
theorem d_Mo_joins_128 : decode prog_14_method_12_code 128 = .ok (.aload_n 0, 1) := by decide +kernel
theorem d_Mo_joins_129 : decode prog_14_method_12_code 129 = .ok (.aload_n 0, 1) := by decide +kernel
theorem d_Mo_joins_130 : decode prog_14_method_12_code 130 = .ok (.getfield 13, 3) := by decide +kernel
theorem d_Mo_joins_133 : decode prog_14_method_12_code 133 = .ok (.iload_n 3, 1) := by decide +kernel
theorem d_Mo_joins_134 : decode prog_14_method_12_code 134 = .ok (.iaload, 1) := by decide +kernel
theorem d_Mo_joins_135 : decode prog_14_method_12_code 135 = .ok (.aload_n 0, 1) := by decide +kernel
theorem d_Mo_joins_136 : decode prog_14_method_12_code 136 = .ok (.getfield 41, 3) := by decide +kernel
theorem d_Mo_joins_139 : decode prog_14_method_12_code 139 = .ok (.bipush 16, 2) := by decide +kernel
theorem d_Mo_joins_141 : decode prog_14_method_12_code 141 = .ok (.iload_n 1, 1) := by decide +kernel
theorem d_Mo_joins_142 : decode prog_14_method_12_code 142 = .ok (.imul, 1) := by decide +kernel
theorem d_Mo_joins_143 : decode prog_14_method_12_code 143 = .ok (.iload 5, 2) := by decide +kernel
theorem d_Mo_joins_145 : decode prog_14_method_12_code 145 = .ok (.iadd, 1) := by decide +kernel
theorem d_Mo_joins_146 : decode prog_14_method_12_code 146 = .ok (.laload, 1) := by decide +kernel
theorem d_Mo_joins_147 : decode prog_14_method_12_code 147 = .ok (.aload_n 0, 1) := by decide +kernel
theorem d_Mo_joins_148 : decode prog_14_method_12_code 148 = .ok (.getfield 41, 3) := by decide +kernel
theorem d_Mo_joins_151 : decode prog_14_method_12_code 151 = .ok (.bipush 16, 2) := by decide +kernel
theorem d_Mo_joins_153 : decode prog_14_method_12_code 153 = .ok (.iload_n 2, 1) := by decide +kernel
theorem d_Mo_joins_154 : decode prog_14_method_12_code 154 = .ok (.imul, 1) := by decide +kernel
theorem d_Mo_joins_155 : decode prog_14_method_12_code 155 = .ok (.iload 6, 2) := by decide +kernel
theorem d_Mo_joins_157 : decode prog_14_method_12_code 157 = .ok (.iadd, 1) := by decide +kernel
theorem d_Mo_joins_158 : decode prog_14_method_12_code 158 = .ok (.laload, 1) := by decide +kernel
theorem d_Mo_joins_159 : decode prog_14_method_12_code 159 = .ok (.lmul, 1) := by decide +kernel
theorem d_Mo_joins_160 : decode prog_14_method_12_code 160 = .ok (.invokevirtual 94, 3) := by decide +kernel
theorem d_Mo_joins_163 : decode prog_14_method_12_code 163 = .ok (.iinc 6 1, 3) := by decide +kernel
theorem d_Mo_joins_166 : decode prog_14_method_12_code 166 = .ok (.goto (-136), 3) := by decide +kernel
theorem d_Mo_joins_169 : decode prog_14_method_12_code 169 = .ok (.iinc 5 1, 3) := by decide +kernel
theorem d_Mo_joins_172 : decode prog_14_method_12_code 172 = .ok (.goto (-156), 3) := by decide +kernel
theorem d_Mo_joins_175 : decode prog_14_method_12_code 175 = .ok (.return_, 1) := by decide +kernel
theorem d_Mo_all_0 : decode prog_14_method_13_code 0 = .ok (.iconst 0, 1) := by decide +kernel
theorem d_Mo_all_1 : decode prog_14_method_13_code 1 = .ok (.istore 4, 2) := by decide +kernel
theorem d_Mo_all_3 : decode prog_14_method_13_code 3 = .ok (.iload 4, 2) := by decide +kernel
theorem d_Mo_all_5 : decode prog_14_method_13_code 5 = .ok (.aload_n 0, 1) := by decide +kernel
theorem d_Mo_all_6 : decode prog_14_method_13_code 6 = .ok (.getfield 38, 3) := by decide +kernel
theorem d_Mo_all_9 : decode prog_14_method_13_code 9 = .ok (.iload_n 1, 1) := by decide +kernel
theorem d_Mo_all_10 : decode prog_14_method_13_code 10 = .ok (.iaload, 1) := by decide +kernel
theorem d_Mo_all_11 : decode prog_14_method_13_code 11 = .ok (.if_icmp .ge 46, 3) := by decide +kernel
theorem d_Mo_all_14 : decode prog_14_method_13_code 14 = .ok (.aload_n 0, 1) := by decide +kernel
theorem d_Mo_all_15 : decode prog_14_method_13_code 15 = .ok (.iload_n 1, 1) := by decide +kernel
theorem d_Mo_all_16 : decode prog_14_method_13_code 16 = .ok (.iload 4, 2) := by decide +kernel
theorem d_Mo_all_18 : decode prog_14_method_13_code 18 = .ok (.invokevirtual 90, 3) := by decide +kernel
theorem d_Mo_all_21 : decode prog_14_method_13_code 21 = .ok (.aload_n 0, 1) := by decide +kernel
theorem d_Mo_all_22 : decode prog_14_method_13_code 22 = .ok (.aload_n 0, 1) := by decide +kernel
theorem d_Mo_all_23 : decode prog_14_method_13_code 23 = .ok (.getfield 13, 3) := by decide +kernel
theorem d_Mo_all_26 : decode prog_14_method_13_code 26 = .ok (.iload_n 2, 1) := by decide +kernel
theorem d_Mo_all_27 : decode prog_14_method_13_code 27 = .ok (.iaload, 1) := by decide +kernel
theorem d_Mo_all_28 : decode prog_14_method_13_code 28 = .ok (.iload_n 3, 1) := by decide +kernel
theorem d_Mo_all_29 : decode prog_14_method_13_code 29 = .ok (.ifCond .eq 7, 3) := by decide +kernel
theorem d_Mo_all_32 : decode prog_14_method_13_code 32 = .ok (.lconst 1, 1) := by decide +kernel
theorem d_Mo_all_33 : decode prog_14_method_13_code 33 = .ok (.goto 15, 3) := by decide +kernel
theorem d_Mo_all_36 : decode prog_14_method_13_code 36 = .ok (.aload_n 0, 1) := by decide +kernel
theorem d_Mo_all_37 : decode prog_14_method_13_code 37 = .ok (.getfield 41, 3) := by decide +kernel
theorem d_Mo_all_40 : decode prog_14_method_13_code 40 = .ok (.bipush 16, 2) := by decide +kernel
theorem d_Mo_all_42 : decode prog_14_method_13_code 42 = .ok (.iload_n 1, 1) := by decide +kernel
theorem d_Mo_all_43 : decode prog_14_method_13_code 43 = .ok (.imul, 1) := by decide +kernel
theorem d_Mo_all_44 : decode prog_14_method_13_code 44 = .ok (.iload 4, 2) := by decide +kernel
theorem d_Mo_all_46 : decode prog_14_method_13_code 46 = .ok (.iadd, 1) := by decide +kernel
theorem d_Mo_all_47 : decode prog_14_method_13_code 47 = .ok (.laload, 1) := by decide +kernel
theorem d_Mo_all_48 : decode prog_14_method_13_code 48 = .ok (.invokevirtual 94, 3) := by decide +kernel
theorem d_Mo_all_51 : decode prog_14_method_13_code 51 = .ok (.iinc 4 1, 3) := by decide +kernel
theorem d_Mo_all_54 : decode prog_14_method_13_code 54 = .ok (.goto (-51), 3) := by decide +kernel
theorem d_Mo_all_57 : decode prog_14_method_13_code 57 = .ok (.return_, 1) := by decide +kernel
theorem d_Mo_groups_0 : decode prog_14_method_15_code 0 = .ok (.iconst 0, 1) := by decide +kernel
theorem d_Mo_groups_1 : decode prog_14_method_15_code 1 = .ok (.istore_n 3, 1) := by decide +kernel
theorem d_Mo_groups_2 : decode prog_14_method_15_code 2 = .ok (.iload_n 3, 1) := by decide +kernel
theorem d_Mo_groups_3 : decode prog_14_method_15_code 3 = .ok (.aload_n 0, 1) := by decide +kernel
theorem d_Mo_groups_4 : decode prog_14_method_15_code 4 = .ok (.getfield 38, 3) := by decide +kernel
theorem d_Mo_groups_7 : decode prog_14_method_15_code 7 = .ok (.iload_n 1, 1) := by decide +kernel
theorem d_Mo_groups_8 : decode prog_14_method_15_code 8 = .ok (.iaload, 1) := by decide +kernel
theorem d_Mo_groups_9 : decode prog_14_method_15_code 9 = .ok (.if_icmp .ge 104, 3) := by decide +kernel
theorem d_Mo_groups_12 : decode prog_14_method_15_code 12 = .ok (.aload_n 0, 1) := by decide +kernel
theorem d_Mo_groups_13 : decode prog_14_method_15_code 13 = .ok (.iload_n 1, 1) := by decide +kernel
theorem d_Mo_groups_14 : decode prog_14_method_15_code 14 = .ok (.iload_n 3, 1) := by decide +kernel
theorem d_Mo_groups_15 : decode prog_14_method_15_code 15 = .ok (.aload_n 0, 1) := by decide +kernel
theorem d_Mo_groups_16 : decode prog_14_method_15_code 16 = .ok (.getfield 26, 3) := by decide +kernel
theorem d_Mo_groups_19 : decode prog_14_method_15_code 19 = .ok (.iload_n 2, 1) := by decide +kernel
theorem d_Mo_groups_20 : decode prog_14_method_15_code 20 = .ok (.iaload, 1) := by decide +kernel
theorem d_Mo_groups_21 : decode prog_14_method_15_code 21 = .ok (.invokevirtual 83, 3) := by decide +kernel
theorem d_Mo_groups_24 : decode prog_14_method_15_code 24 = .ok (.istore 4, 2) := by decide +kernel
theorem d_Mo_groups_26 : decode prog_14_method_15_code 26 = .ok (.iconst 1, 1) := by decide +kernel
theorem d_Mo_groups_27 : decode prog_14_method_15_code 27 = .ok (.istore 5, 2) := by decide +kernel
theorem d_Mo_groups_29 : decode prog_14_method_15_code 29 = .ok (.iconst 0, 1) := by decide +kernel
theorem d_Mo_groups_30 : decode prog_14_method_15_code 30 = .ok (.istore 6, 2) := by decide +kernel
theorem d_Mo_groups_32 : decode prog_14_method_15_code 32 = .ok (.iload 6, 2) := by decide +kernel
theorem d_Mo_groups_34 : decode prog_14_method_15_code 34 = .ok (.iload_n 3, 1) := by decide +kernel
theorem d_Mo_groups_35 : decode prog_14_method_15_code 35 = .ok (.if_icmp .ge 39, 3) := by decide +kernel
theorem d_Mo_groups_38 : decode prog_14_method_15_code 38 = .ok (.iload 5, 2) := by decide +kernel
theorem d_Mo_groups_40 : decode prog_14_method_15_code 40 = .ok (.ifCond .eq 25, 3) := by decide +kernel
theorem d_Mo_groups_43 : decode prog_14_method_15_code 43 = .ok (.aload_n 0, 1) := by decide +kernel
theorem d_Mo_groups_44 : decode prog_14_method_15_code 44 = .ok (.iload_n 1, 1) := by decide +kernel
theorem d_Mo_groups_45 : decode prog_14_method_15_code 45 = .ok (.iload 6, 2) := by decide +kernel
theorem d_Mo_groups_47 : decode prog_14_method_15_code 47 = .ok (.aload_n 0, 1) := by decide +kernel
theorem d_Mo_groups_48 : decode prog_14_method_15_code 48 = .ok (.getfield 26, 3) := by decide +kernel
theorem d_Mo_groups_51 : decode prog_14_method_15_code 51 = .ok (.iload_n 2, 1) := by decide +kernel
theorem d_Mo_groups_52 : decode prog_14_method_15_code 52 = .ok (.iaload, 1) := by decide +kernel
theorem d_Mo_groups_53 : decode prog_14_method_15_code 53 = .ok (.invokevirtual 83, 3) := by decide +kernel
theorem d_Mo_groups_56 : decode prog_14_method_15_code 56 = .ok (.iload 4, 2) := by decide +kernel
theorem d_Mo_groups_58 : decode prog_14_method_15_code 58 = .ok (.if_icmp .eq 7, 3) := by decide +kernel
theorem d_Mo_groups_61 : decode prog_14_method_15_code 61 = .ok (.iconst 1, 1) := by decide +kernel
theorem d_Mo_groups_62 : decode prog_14_method_15_code 62 = .ok (.goto 4, 3) := by decide +kernel
theorem d_Mo_groups_65 : decode prog_14_method_15_code 65 = .ok (.iconst 0, 1) := by decide +kernel
theorem d_Mo_groups_66 : decode prog_14_method_15_code 66 = .ok (.istore 5, 2) := by decide +kernel
theorem d_Mo_groups_68 : decode prog_14_method_15_code 68 = .ok (.iinc 6 1, 3) := by decide +kernel
theorem d_Mo_groups_71 : decode prog_14_method_15_code 71 = .ok (.goto (-39), 3) := by decide +kernel
theorem d_Mo_groups_74 : decode prog_14_method_15_code 74 = .ok (.iload 5, 2) := by decide +kernel
theorem d_Mo_groups_76 : decode prog_14_method_15_code 76 = .ok (.ifCond .eq 31, 3) := by decide +kernel
theorem d_Mo_groups_79 : decode prog_14_method_15_code 79 = .ok (.aload_n 0, 1) := by decide +kernel
theorem d_Mo_groups_80 : decode prog_14_method_15_code 80 = .ok (.getfield 54, 3) := by decide +kernel
theorem d_Mo_groups_83 : decode prog_14_method_15_code 83 = .ok (.iconst 0, 1) := by decide +kernel
theorem d_Mo_groups_84 : decode prog_14_method_15_code 84 = .ok (.iload 4, 2) := by decide +kernel
theorem d_Mo_groups_86 : decode prog_14_method_15_code 86 = .ok (.iastore, 1) := by decide +kernel
theorem d_Mo_groups_87 : decode prog_14_method_15_code 87 = .ok (.aload_n 0, 1) := by decide +kernel
theorem d_Mo_groups_88 : decode prog_14_method_15_code 88 = .ok (.getfield 54, 3) := by decide +kernel
theorem d_Mo_groups_91 : decode prog_14_method_15_code 91 = .ok (.iconst 1, 1) := by decide +kernel
theorem d_Mo_groups_92 : decode prog_14_method_15_code 92 = .ok (.aload_n 0, 1) := by decide +kernel
theorem d_Mo_groups_93 : decode prog_14_method_15_code 93 = .ok (.iload_n 1, 1) := by decide +kernel
theorem d_Mo_groups_94 : decode prog_14_method_15_code 94 = .ok (.iload_n 2, 1) := by decide +kernel
theorem d_Mo_groups_95 : decode prog_14_method_15_code 95 = .ok (.iload 4, 2) := by decide +kernel
theorem d_Mo_groups_97 : decode prog_14_method_15_code 97 = .ok (.invokevirtual 98, 3) := by decide +kernel
theorem d_Mo_groups_100 : decode prog_14_method_15_code 100 = .ok (.iastore, 1) := by decide +kernel
theorem d_Mo_groups_101 : decode prog_14_method_15_code 101 = .ok (.aload_n 0, 1) := by decide +kernel
theorem d_Mo_groups_102 : decode prog_14_method_15_code 102 = .ok (.iconst 2, 1) := by decide +kernel
theorem d_Mo_groups_103 : decode prog_14_method_15_code 103 = .ok (.lconst 1, 1) := by decide +kernel
theorem d_Mo_groups_104 : decode prog_14_method_15_code 104 = .ok (.invokevirtual 94, 3) := by decide +kernel
theorem d_Mo_groups_107 : decode prog_14_method_15_code 107 = .ok (.iinc 3 1, 3) := by decide +kernel
theorem d_Mo_groups_110 : decode prog_14_method_15_code 110 = .ok (.goto (-108), 3) := by decide +kernel
theorem d_Mo_groups_113 : decode prog_14_method_15_code 113 = .ok (.return_, 1) := by decide +kernel
theorem d_Mo_result_0 : decode prog_14_method_14_code 0 = .ok (.iconst 0, 1) := by decide +kernel
theorem d_Mo_result_1 : decode prog_14_method_14_code 1 = .ok (.istore 4, 2) := by decide +kernel
theorem d_Mo_result_3 : decode prog_14_method_14_code 3 = .ok (.iconst 0, 1) := by decide +kernel
theorem d_Mo_result_4 : decode prog_14_method_14_code 4 = .ok (.istore 5, 2) := by decide +kernel
theorem d_Mo_result_6 : decode prog_14_method_14_code 6 = .ok (.iconst 0, 1) := by decide +kernel
theorem d_Mo_result_7 : decode prog_14_method_14_code 7 = .ok (.istore 6, 2) := by decide +kernel
theorem d_Mo_result_9 : decode prog_14_method_14_code 9 = .ok (.iload 6, 2) := by decide +kernel
theorem d_Mo_result_11 : decode prog_14_method_14_code 11 = .ok (.aload_n 0, 1) := by decide +kernel
theorem d_Mo_result_12 : decode prog_14_method_14_code 12 = .ok (.getfield 38, 3) := by decide +kernel
theorem d_Mo_result_15 : decode prog_14_method_14_code 15 = .ok (.iload_n 1, 1) := by decide +kernel
theorem d_Mo_result_16 : decode prog_14_method_14_code 16 = .ok (.iaload, 1) := by decide +kernel
theorem d_Mo_result_17 : decode prog_14_method_14_code 17 = .ok (.if_icmp .ge 122, 3) := by decide +kernel
theorem d_Mo_result_20 : decode prog_14_method_14_code 20 = .ok (.aload_n 0, 1) := by decide +kernel
theorem d_Mo_result_21 : decode prog_14_method_14_code 21 = .ok (.iload_n 1, 1) := by decide +kernel
theorem d_Mo_result_22 : decode prog_14_method_14_code 22 = .ok (.iload 6, 2) := by decide +kernel
theorem d_Mo_result_24 : decode prog_14_method_14_code 24 = .ok (.aload_n 0, 1) := by decide +kernel
theorem d_Mo_result_25 : decode prog_14_method_14_code 25 = .ok (.getfield 26, 3) := by decide +kernel
theorem d_Mo_result_28 : decode prog_14_method_14_code 28 = .ok (.iload_n 2, 1) := by decide +kernel
theorem d_Mo_result_29 : decode prog_14_method_14_code 29 = .ok (.iaload, 1) := by decide +kernel
theorem d_Mo_result_30 : decode prog_14_method_14_code 30 = .ok (.invokevirtual 83, 3) := by decide +kernel
theorem d_Mo_result_33 : decode prog_14_method_14_code 33 = .ok (.iload_n 3, 1) := by decide +kernel
theorem d_Mo_result_34 : decode prog_14_method_14_code 34 = .ok (.if_icmp .ne 99, 3) := by decide +kernel
theorem d_Mo_result_37 : decode prog_14_method_14_code 37 = .ok (.aload_n 0, 1) := by decide +kernel
theorem d_Mo_result_38 : decode prog_14_method_14_code 38 = .ok (.iload_n 1, 1) := by decide +kernel
theorem d_Mo_result_39 : decode prog_14_method_14_code 39 = .ok (.iload 6, 2) := by decide +kernel
theorem d_Mo_result_41 : decode prog_14_method_14_code 41 = .ok (.aload_n 0, 1) := by decide +kernel
theorem d_Mo_result_42 : decode prog_14_method_14_code 42 = .ok (.getfield 29, 3) := by decide +kernel
theorem d_Mo_result_45 : decode prog_14_method_14_code 45 = .ok (.iload_n 2, 1) := by decide +kernel
theorem d_Mo_result_46 : decode prog_14_method_14_code 46 = .ok (.iaload, 1) := by decide +kernel
theorem d_Mo_result_47 : decode prog_14_method_14_code 47 = .ok (.invokevirtual 83, 3) := by decide +kernel
theorem d_Mo_result_50 : decode prog_14_method_14_code 50 = .ok (.istore 7, 2) := by decide +kernel
theorem d_Mo_result_52 : decode prog_14_method_14_code 52 = .ok (.aload_n 0, 1) := by decide +kernel
theorem d_Mo_result_53 : decode prog_14_method_14_code 53 = .ok (.getfield 41, 3) := by decide +kernel
theorem d_Mo_result_56 : decode prog_14_method_14_code 56 = .ok (.bipush 16, 2) := by decide +kernel
theorem d_Mo_result_58 : decode prog_14_method_14_code 58 = .ok (.iload_n 1, 1) := by decide +kernel
theorem d_Mo_result_59 : decode prog_14_method_14_code 59 = .ok (.imul, 1) := by decide +kernel
theorem d_Mo_result_60 : decode prog_14_method_14_code 60 = .ok (.iload 6, 2) := by decide +kernel
theorem d_Mo_result_62 : decode prog_14_method_14_code 62 = .ok (.iadd, 1) := by decide +kernel
theorem d_Mo_result_63 : decode prog_14_method_14_code 63 = .ok (.laload, 1) := by decide +kernel
theorem d_Mo_result_64 : decode prog_14_method_14_code 64 = .ok (.l2i, 1) := by decide +kernel
theorem d_Mo_result_65 : decode prog_14_method_14_code 65 = .ok (.istore 8, 2) := by decide +kernel
theorem d_Mo_result_67 : decode prog_14_method_14_code 67 = .ok (.aload_n 0, 1) := by decide +kernel
theorem d_Mo_result_68 : decode prog_14_method_14_code 68 = .ok (.getfield 17, 3) := by decide +kernel
theorem d_Mo_result_71 : decode prog_14_method_14_code 71 = .ok (.iload_n 2, 1) := by decide +kernel
theorem d_Mo_result_72 : decode prog_14_method_14_code 72 = .ok (.iaload, 1) := by decide +kernel
theorem d_Mo_result_73 : decode prog_14_method_14_code 73 = .ok (.bipush 7, 2) := by decide +kernel
theorem d_Mo_result_75 : decode prog_14_method_14_code 75 = .ok (.if_icmp .ne 27, 3) := by decide +kernel
theorem d_Mo_result_78 : decode prog_14_method_14_code 78 = .ok (.iload 5, 2) := by decide +kernel
theorem d_Mo_result_80 : decode prog_14_method_14_code 80 = .ok (.ifCond .eq 10, 3) := by decide +kernel
theorem d_Mo_result_83 : decode prog_14_method_14_code 83 = .ok (.iload 7, 2) := by decide +kernel
theorem d_Mo_result_85 : decode prog_14_method_14_code 85 = .ok (.iload 4, 2) := by decide +kernel
theorem d_Mo_result_87 : decode prog_14_method_14_code 87 = .ok (.if_icmp .le 8, 3) := by decide +kernel
theorem d_Mo_result_90 : decode prog_14_method_14_code 90 = .ok (.iload 7, 2) := by decide +kernel
theorem d_Mo_result_92 : decode prog_14_method_14_code 92 = .ok (.goto 5, 3) := by decide +kernel
theorem d_Mo_result_95 : decode prog_14_method_14_code 95 = .ok (.iload 4, 2) := by decide +kernel
theorem d_Mo_result_97 : decode prog_14_method_14_code 97 = .ok (.istore 4, 2) := by decide +kernel
theorem d_Mo_result_99 : decode prog_14_method_14_code 99 = .ok (.goto 31, 3) := by decide +kernel
theorem d_Mo_result_102 : decode prog_14_method_14_code 102 = .ok (.aload_n 0, 1) := by decide +kernel
theorem d_Mo_result_103 : decode prog_14_method_14_code 103 = .ok (.getfield 17, 3) := by decide +kernel
theorem d_Mo_result_106 : decode prog_14_method_14_code 106 = .ok (.iload_n 2, 1) := by decide +kernel
theorem d_Mo_result_107 : decode prog_14_method_14_code 107 = .ok (.iaload, 1) := by decide +kernel
theorem d_Mo_result_108 : decode prog_14_method_14_code 108 = .ok (.iconst 5, 1) := by decide +kernel
theorem d_Mo_result_109 : decode prog_14_method_14_code 109 = .ok (.if_icmp .ne 14, 3) := by decide +kernel
theorem d_Mo_result_112 : decode prog_14_method_14_code 112 = .ok (.iload 4, 2) := by decide +kernel
theorem d_Mo_result_114 : decode prog_14_method_14_code 114 = .ok (.iload 7, 2) := by decide +kernel
theorem d_Mo_result_116 : decode prog_14_method_14_code 116 = .ok (.iload 8, 2) := by decide +kernel
theorem d_Mo_result_118 : decode prog_14_method_14_code 118 = .ok (.imul, 1) := by decide +kernel
theorem d_Mo_result_119 : decode prog_14_method_14_code 119 = .ok (.iadd, 1) := by decide +kernel
theorem d_Mo_result_120 : decode prog_14_method_14_code 120 = .ok (.goto 8, 3) := by decide +kernel
theorem d_Mo_result_123 : decode prog_14_method_14_code 123 = .ok (.iload 4, 2) := by decide +kernel
theorem d_Mo_result_125 : decode prog_14_method_14_code 125 = .ok (.iload 8, 2) := by decide +kernel
theorem d_Mo_result_127 : decode prog_14_method_14_code 127 = .ok (.iadd, 1) := by decide +kernel
theorem d_Mo_result_128 : decode prog_14_method_14_code 128 = .ok (.istore 4, 2) := by decide +kernel
theorem d_Mo_result_130 : decode prog_14_method_14_code 130 = .ok (.iconst 1, 1) := by decide +kernel
theorem d_Mo_result_131 : decode prog_14_method_14_code 131 = .ok (.istore 5, 2) := by decide +kernel
theorem d_Mo_result_133 : decode prog_14_method_14_code 133 = .ok (.iinc 6 1, 3) := by decide +kernel
theorem d_Mo_result_136 : decode prog_14_method_14_code 136 = .ok (.goto (-127), 3) := by decide +kernel
theorem d_Mo_result_139 : decode prog_14_method_14_code 139 = .ok (.iload 4, 2) := by decide +kernel
theorem d_Mo_result_141 : decode prog_14_method_14_code 141 = .ok (.ireturn, 1) := by decide +kernel
