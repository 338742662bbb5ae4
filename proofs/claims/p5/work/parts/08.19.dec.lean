theorem dX12_act_15 : decode cX12_act 15 = .ok (.iconst 3, 1) := by decide +kernel
theorem dX12_act_16 : decode cX12_act 16 = .ok (.invokestatic 230, 3) := by decide +kernel
theorem dX12_act_19 : decode cX12_act 19 = .ok (.ifCond .ne 5, 3) := by decide +kernel
theorem dX12_act_22 : decode cX12_act 22 = .ok (.iconst 0, 1) := by decide +kernel
theorem dX12_act_23 : decode cX12_act 23 = .ok (.ireturn, 1) := by decide +kernel
theorem dX12_act_24 : decode cX12_act 24 = .ok (.iload_n 2, 1) := by decide +kernel
theorem dX12_act_25 : decode cX12_act 25 = .ok (.ifCond .ne 12, 3) := by decide +kernel
theorem dX12_act_28 : decode cX12_act 28 = .ok (.aload_n 0, 1) := by decide +kernel
theorem dX12_act_29 : decode cX12_act 29 = .ok (.iload_n 1, 1) := by decide +kernel
theorem dX12_act_30 : decode cX12_act 30 = .ok (.iload_n 3, 1) := by decide +kernel
theorem dX12_act_31 : decode cX12_act 31 = .ok (.invokevirtual 469, 3) := by decide +kernel
theorem dX12_act_34 : decode cX12_act 34 = .ok (.goto 37, 3) := by decide +kernel
theorem dX12_act_37 : decode cX12_act 37 = .ok (.iload_n 2, 1) := by decide +kernel
theorem dX12_act_38 : decode cX12_act 38 = .ok (.iconst 1, 1) := by decide +kernel
theorem dX12_act_39 : decode cX12_act 39 = .ok (.if_icmp .ne 12, 3) := by decide +kernel
theorem dX12_act_42 : decode cX12_act 42 = .ok (.aload_n 0, 1) := by decide +kernel
theorem dX12_act_43 : decode cX12_act 43 = .ok (.iload_n 1, 1) := by decide +kernel
theorem dX12_act_44 : decode cX12_act 44 = .ok (.iload_n 3, 1) := by decide +kernel
theorem dX12_act_45 : decode cX12_act 45 = .ok (.invokevirtual 478, 3) := by decide +kernel
theorem dX12_act_48 : decode cX12_act 48 = .ok (.goto 23, 3) := by decide +kernel
theorem dX12_act_51 : decode cX12_act 51 = .ok (.iload_n 2, 1) := by decide +kernel
theorem dX12_act_52 : decode cX12_act 52 = .ok (.iconst 2, 1) := by decide +kernel
theorem dX12_act_53 : decode cX12_act 53 = .ok (.if_icmp .ne 12, 3) := by decide +kernel
theorem dX12_act_56 : decode cX12_act 56 = .ok (.aload_n 0, 1) := by decide +kernel
theorem dX12_act_57 : decode cX12_act 57 = .ok (.iload_n 1, 1) := by decide +kernel
theorem dX12_act_58 : decode cX12_act 58 = .ok (.iload_n 3, 1) := by decide +kernel
theorem dX12_act_59 : decode cX12_act 59 = .ok (.invokevirtual 481, 3) := by decide +kernel
theorem dX12_act_62 : decode cX12_act 62 = .ok (.goto 9, 3) := by decide +kernel
theorem dX12_act_65 : decode cX12_act 65 = .ok (.aload_n 0, 1) := by decide +kernel
theorem dX12_act_66 : decode cX12_act 66 = .ok (.iload_n 1, 1) := by decide +kernel
theorem dX12_act_67 : decode cX12_act 67 = .ok (.iload_n 3, 1) := by decide +kernel
theorem dX12_act_68 : decode cX12_act 68 = .ok (.invokevirtual 487, 3) := by decide +kernel
theorem dX12_act_71 : decode cX12_act 71 = .ok (.ireturn, 1) := by decide +kernel
theorem dX12_trace_0 : decode cX12_trace 0 = .ok (.iload_n 1, 1) := by decide +kernel
theorem dX12_trace_1 : decode cX12_trace 1 = .ok (.ifCond .lt 26, 3) := by decide +kernel
theorem dX12_trace_4 : decode cX12_trace 4 = .ok (.iload_n 1, 1) := by decide +kernel
theorem dX12_trace_5 : decode cX12_trace 5 = .ok (.aload_n 0, 1) := by decide +kernel
theorem dX12_trace_6 : decode cX12_trace 6 = .ok (.getfield 453, 3) := by decide +kernel
theorem dX12_trace_9 : decode cX12_trace 9 = .ok (.if_icmp .ge 18, 3) := by decide +kernel
theorem dX12_trace_12 : decode cX12_trace 12 = .ok (.iload_n 1, 1) := by decide +kernel
theorem dX12_trace_13 : decode cX12_trace 13 = .ok (.bipush 24, 2) := by decide +kernel
theorem dX12_trace_15 : decode cX12_trace 15 = .ok (.if_icmp .ge 12, 3) := by decide +kernel
theorem dX12_trace_18 : decode cX12_trace 18 = .ok (.aload_n 0, 1) := by decide +kernel
theorem dX12_trace_19 : decode cX12_trace 19 = .ok (.getfield 205, 3) := by decide +kernel
theorem dX12_trace_22 : decode cX12_trace 22 = .ok (.iload_n 1, 1) := by decide +kernel
theorem dX12_trace_23 : decode cX12_trace 23 = .ok (.iaload, 1) := by decide +kernel
theorem dX12_trace_24 : decode cX12_trace 24 = .ok (.goto 4, 3) := by decide +kernel
theorem dX12_trace_27 : decode cX12_trace 27 = .ok (.iconst (-1), 1) := by decide +kernel
theorem dX12_trace_28 : decode cX12_trace 28 = .ok (.ireturn, 1) := by decide +kernel
theorem dX12_count_0 : decode cX12_count 0 = .ok (.iconst 0, 1) := by decide +kernel
theorem dX12_count_1 : decode cX12_count 1 = .ok (.istore_n 2, 1) := by decide +kernel
theorem dX12_count_2 : decode cX12_count 2 = .ok (.iload_n 1, 1) := by decide +kernel
theorem dX12_count_3 : decode cX12_count 3 = .ok (.tableswitch 202 0 11 #[61, 66, 100, 135, 140, 145, 150, 155, 160, 187, 192, 197], 61) := by decide +kernel
theorem dX12_count_64 : decode cX12_count 64 = .ok (.aload_n 0, 1) := by decide +kernel
theorem dX12_count_65 : decode cX12_count 65 = .ok (.getfield 242, 3) := by decide +kernel
theorem dX12_count_68 : decode cX12_count 68 = .ok (.ireturn, 1) := by decide +kernel
theorem dX12_count_69 : decode cX12_count 69 = .ok (.iconst 0, 1) := by decide +kernel
theorem dX12_count_70 : decode cX12_count 70 = .ok (.istore_n 3, 1) := by decide +kernel
theorem dX12_count_71 : decode cX12_count 71 = .ok (.iload_n 3, 1) := by decide +kernel
theorem dX12_count_72 : decode cX12_count 72 = .ok (.aload_n 0, 1) := by decide +kernel
theorem dX12_count_73 : decode cX12_count 73 = .ok (.getfield 242, 3) := by decide +kernel
theorem dX12_count_76 : decode cX12_count 76 = .ok (.if_icmp .ge 25, 3) := by decide +kernel
theorem dX12_count_79 : decode cX12_count 79 = .ok (.iload_n 2, 1) := by decide +kernel
theorem dX12_count_80 : decode cX12_count 80 = .ok (.aload_n 0, 1) := by decide +kernel
theorem dX12_count_81 : decode cX12_count 81 = .ok (.iload_n 3, 1) := by decide +kernel
theorem dX12_count_82 : decode cX12_count 82 = .ok (.invokevirtual 268, 3) := by decide +kernel
theorem dX12_count_85 : decode cX12_count 85 = .ok (.ifCond .eq 7, 3) := by decide +kernel
theorem dX12_count_88 : decode cX12_count 88 = .ok (.iconst 1, 1) := by decide +kernel
theorem dX12_count_89 : decode cX12_count 89 = .ok (.goto 4, 3) := by decide +kernel
theorem dX12_count_92 : decode cX12_count 92 = .ok (.iconst 0, 1) := by decide +kernel
theorem dX12_count_93 : decode cX12_count 93 = .ok (.iadd, 1) := by decide +kernel
theorem dX12_count_94 : decode cX12_count 94 = .ok (.istore_n 2, 1) := by decide +kernel
theorem dX12_count_95 : decode cX12_count 95 = .ok (.iinc 3 1, 3) := by decide +kernel
theorem dX12_count_98 : decode cX12_count 98 = .ok (.goto (-27), 3) := by decide +kernel
theorem dX12_count_101 : decode cX12_count 101 = .ok (.iload_n 2, 1) := by decide +kernel
theorem dX12_count_102 : decode cX12_count 102 = .ok (.ireturn, 1) := by decide +kernel
theorem dX12_count_103 : decode cX12_count 103 = .ok (.iconst 0, 1) := by decide +kernel
theorem dX12_count_104 : decode cX12_count 104 = .ok (.istore_n 3, 1) := by decide +kernel
theorem dX12_count_105 : decode cX12_count 105 = .ok (.iload_n 3, 1) := by decide +kernel
theorem dX12_count_106 : decode cX12_count 106 = .ok (.aload_n 0, 1) := by decide +kernel
theorem dX12_count_107 : decode cX12_count 107 = .ok (.getfield 242, 3) := by decide +kernel
theorem dX12_count_110 : decode cX12_count 110 = .ok (.if_icmp .ge 26, 3) := by decide +kernel
theorem dX12_count_113 : decode cX12_count 113 = .ok (.iload_n 2, 1) := by decide +kernel
theorem dX12_count_114 : decode cX12_count 114 = .ok (.aload_n 0, 1) := by decide +kernel
theorem dX12_count_115 : decode cX12_count 115 = .ok (.getfield 38, 3) := by decide +kernel
theorem dX12_count_118 : decode cX12_count 118 = .ok (.iload_n 3, 1) := by decide +kernel
theorem dX12_count_119 : decode cX12_count 119 = .ok (.iaload, 1) := by decide +kernel
theorem dX12_count_120 : decode cX12_count 120 = .ok (.ifCond .le 7, 3) := by decide +kernel
theorem dX12_count_123 : decode cX12_count 123 = .ok (.iconst 1, 1) := by decide +kernel
theorem dX12_count_124 : decode cX12_count 124 = .ok (.goto 4, 3) := by decide +kernel
theorem dX12_count_127 : decode cX12_count 127 = .ok (.iconst 0, 1) := by decide +kernel
theorem dX12_count_128 : decode cX12_count 128 = .ok (.iadd, 1) := by decide +kernel
theorem dX12_count_129 : decode cX12_count 129 = .ok (.istore_n 2, 1) := by decide +kernel
theorem dX12_count_130 : decode cX12_count 130 = .ok (.iinc 3 1, 3) := by decide +kernel
theorem dX12_count_133 : decode cX12_count 133 = .ok (.goto (-28), 3) := by decide +kernel
theorem dX12_count_136 : decode cX12_count 136 = .ok (.iload_n 2, 1) := by decide +kernel
theorem dX12_count_137 : decode cX12_count 137 = .ok (.ireturn, 1) := by decide +kernel
theorem dX12_count_138 : decode cX12_count 138 = .ok (.aload_n 0, 1) := by decide +kernel
theorem dX12_count_139 : decode cX12_count 139 = .ok (.invokevirtual 394, 3) := by decide +kernel
theorem dX12_count_142 : decode cX12_count 142 = .ok (.ireturn, 1) := by decide +kernel
theorem dX12_count_143 : decode cX12_count 143 = .ok (.aload_n 0, 1) := by decide +kernel
theorem dX12_count_144 : decode cX12_count 144 = .ok (.getfield 281, 3) := by decide +kernel
theorem dX12_count_147 : decode cX12_count 147 = .ok (.ireturn, 1) := by decide +kernel
theorem dX12_count_148 : decode cX12_count 148 = .ok (.aload_n 0, 1) := by decide +kernel
theorem dX12_count_149 : decode cX12_count 149 = .ok (.getfield 301, 3) := by decide +kernel
theorem dX12_count_152 : decode cX12_count 152 = .ok (.ireturn, 1) := by decide +kernel
theorem dX12_count_153 : decode cX12_count 153 = .ok (.aload_n 0, 1) := by decide +kernel
theorem dX12_count_154 : decode cX12_count 154 = .ok (.getfield 373, 3) := by decide +kernel
theorem dX12_count_157 : decode cX12_count 157 = .ok (.ireturn, 1) := by decide +kernel
theorem dX12_count_158 : decode cX12_count 158 = .ok (.aload_n 0, 1) := by decide +kernel
theorem dX12_count_159 : decode cX12_count 159 = .ok (.getfield 316, 3) := by decide +kernel
theorem dX12_count_162 : decode cX12_count 162 = .ok (.ireturn, 1) := by decide +kernel
theorem dX12_count_163 : decode cX12_count 163 = .ok (.iconst 0, 1) := by decide +kernel
theorem dX12_count_164 : decode cX12_count 164 = .ok (.istore_n 3, 1) := by decide +kernel
theorem dX12_count_165 : decode cX12_count 165 = .ok (.iload_n 3, 1) := by decide +kernel
theorem dX12_count_166 : decode cX12_count 166 = .ok (.aload_n 0, 1) := by decide +kernel
theorem dX12_count_167 : decode cX12_count 167 = .ok (.getfield 242, 3) := by decide +kernel
theorem dX12_count_170 : decode cX12_count 170 = .ok (.if_icmp .ge 18, 3) := by decide +kernel
theorem dX12_count_173 : decode cX12_count 173 = .ok (.iload_n 2, 1) := by decide +kernel
theorem dX12_count_174 : decode cX12_count 174 = .ok (.aload_n 0, 1) := by decide +kernel
theorem dX12_count_175 : decode cX12_count 175 = .ok (.getfield 32, 3) := by decide +kernel
theorem dX12_count_178 : decode cX12_count 178 = .ok (.iload_n 3, 1) := by decide +kernel
theorem dX12_count_179 : decode cX12_count 179 = .ok (.iaload, 1) := by decide +kernel
theorem dX12_count_180 : decode cX12_count 180 = .ok (.iadd, 1) := by decide +kernel
theorem dX12_count_181 : decode cX12_count 181 = .ok (.istore_n 2, 1) := by decide +kernel
theorem dX12_count_182 : decode cX12_count 182 = .ok (.iinc 3 1, 3) := by decide +kernel
theorem dX12_count_185 : decode cX12_count 185 = .ok (.goto (-20), 3) := by decide +kernel
theorem dX12_count_188 : decode cX12_count 188 = .ok (.iload_n 2, 1) := by decide +kernel
theorem dX12_count_189 : decode cX12_count 189 = .ok (.ireturn, 1) := by decide +kernel
theorem dX12_count_190 : decode cX12_count 190 = .ok (.aload_n 0, 1) := by decide +kernel
theorem dX12_count_191 : decode cX12_count 191 = .ok (.getfield 412, 3) := by decide +kernel
theorem dX12_count_194 : decode cX12_count 194 = .ok (.ireturn, 1) := by decide +kernel
theorem dX12_count_195 : decode cX12_count 195 = .ok (.aload_n 0, 1) := by decide +kernel
theorem dX12_count_196 : decode cX12_count 196 = .ok (.getfield 428, 3) := by decide +kernel
theorem dX12_count_199 : decode cX12_count 199 = .ok (.ireturn, 1) := by decide +kernel
theorem dX12_count_200 : decode cX12_count 200 = .ok (.aload_n 0, 1) := by decide +kernel
theorem dX12_count_201 : decode cX12_count 201 = .ok (.getfield 453, 3) := by decide +kernel
theorem dX12_count_204 : decode cX12_count 204 = .ok (.ireturn, 1) := by decide +kernel
theorem dX12_count_205 : decode cX12_count 205 = .ok (.iconst (-1), 1) := by decide +kernel
theorem dX12_count_206 : decode cX12_count 206 = .ok (.ireturn, 1) := by decide +kernel
theorem dX12_isShelf_0 : decode cX12_isShelf 0 = .ok (.iload_n 0, 1) := by decide +kernel
theorem dX12_isShelf_1 : decode cX12_isShelf 1 = .ok (.iconst 0, 1) := by decide +kernel
theorem dX12_isShelf_2 : decode cX12_isShelf 2 = .ok (.iconst 5, 1) := by decide +kernel
theorem dX12_isShelf_3 : decode cX12_isShelf 3 = .ok (.invokestatic 230, 3) := by decide +kernel
theorem dX12_isShelf_6 : decode cX12_isShelf 6 = .ok (.ireturn, 1) := by decide +kernel
theorem dX12_isReals_0 : decode cX12_isReals 0 = .ok (.aload_n 0, 1) := by decide +kernel
theorem dX12_isReals_1 : decode cX12_isReals 1 = .ok (.getfield 208, 3) := by decide +kernel
theorem dX12_isReals_4 : decode cX12_isReals 4 = .ok (.iload_n 1, 1) := by decide +kernel
theorem dX12_isReals_5 : decode cX12_isReals 5 = .ok (.iaload, 1) := by decide +kernel
theorem dX12_isReals_6 : decode cX12_isReals 6 = .ok (.bipush (-5), 2) := by decide +kernel
theorem dX12_isReals_8 : decode cX12_isReals 8 = .ok (.if_icmp .eq 14, 3) := by decide +kernel
theorem dX12_isReals_11 : decode cX12_isReals 11 = .ok (.aload_n 0, 1) := by decide +kernel
theorem dX12_isReals_12 : decode cX12_isReals 12 = .ok (.getfield 208, 3) := by decide +kernel
theorem dX12_isReals_15 : decode cX12_isReals 15 = .ok (.iload_n 1, 1) := by decide +kernel
theorem dX12_isReals_16 : decode cX12_isReals 16 = .ok (.iaload, 1) := by decide +kernel
theorem dX12_isReals_17 : decode cX12_isReals 17 = .ok (.bipush (-6), 2) := by decide +kernel
theorem dX12_isReals_19 : decode cX12_isReals 19 = .ok (.if_icmp .ne 7, 3) := by decide +kernel
theorem dX12_isReals_22 : decode cX12_isReals 22 = .ok (.iconst 1, 1) := by decide +kernel
theorem dX12_isReals_23 : decode cX12_isReals 23 = .ok (.goto 4, 3) := by decide +kernel
theorem dX12_isReals_26 : decode cX12_isReals 26 = .ok (.iconst 0, 1) := by decide +kernel
theorem dX12_isReals_27 : decode cX12_isReals 27 = .ok (.ireturn, 1) := by decide +kernel
theorem dX12_keep_0 : decode cX12_keep 0 = .ok (.iload_n 1, 1) := by decide +kernel
theorem dX12_keep_1 : decode cX12_keep 1 = .ok (.invokestatic 288, 3) := by decide +kernel
theorem dX12_keep_4 : decode cX12_keep 4 = .ok (.ifCond .eq 16, 3) := by decide +kernel
theorem dX12_keep_7 : decode cX12_keep 7 = .ok (.iload_n 2, 1) := by decide +kernel
theorem dX12_keep_8 : decode cX12_keep 8 = .ok (.iconst (-1), 1) := by decide +kernel
theorem dX12_keep_9 : decode cX12_keep 9 = .ok (.if_icmp .eq 13, 3) := by decide +kernel
theorem dX12_keep_12 : decode cX12_keep 12 = .ok (.aload_n 0, 1) := by decide +kernel
theorem dX12_keep_13 : decode cX12_keep 13 = .ok (.iload_n 2, 1) := by decide +kernel
theorem dX12_keep_14 : decode cX12_keep 14 = .ok (.invokevirtual 245, 3) := by decide +kernel
theorem dX12_keep_17 : decode cX12_keep 17 = .ok (.ifCond .ne 5, 3) := by decide +kernel
theorem dX12_keep_20 : decode cX12_keep 20 = .ok (.iconst (-1), 1) := by decide +kernel
theorem dX12_keep_21 : decode cX12_keep 21 = .ok (.ireturn, 1) := by decide +kernel
theorem dX12_keep_22 : decode cX12_keep 22 = .ok (.aload_n 0, 1) := by decide +kernel
theorem dX12_keep_23 : decode cX12_keep 23 = .ok (.getfield 208, 3) := by decide +kernel
theorem dX12_keep_26 : decode cX12_keep 26 = .ok (.iload_n 1, 1) := by decide +kernel
theorem dX12_keep_27 : decode cX12_keep 27 = .ok (.iload_n 2, 1) := by decide +kernel
theorem dX12_keep_28 : decode cX12_keep 28 = .ok (.iastore, 1) := by decide +kernel
theorem dX12_keep_29 : decode cX12_keep 29 = .ok (.iconst 1, 1) := by decide +kernel
theorem dX12_keep_30 : decode cX12_keep 30 = .ok (.ireturn, 1) := by decide +kernel
theorem dX12_row_0 : decode cX12_row 0 = .ok (.iload_n 1, 1) := by decide +kernel
theorem dX12_row_1 : decode cX12_row 1 = .ok (.invokestatic 288, 3) := by decide +kernel
theorem dX12_row_4 : decode cX12_row 4 = .ok (.ifCond .eq 18, 3) := by decide +kernel
theorem dX12_row_7 : decode cX12_row 7 = .ok (.iload_n 2, 1) := by decide +kernel
theorem dX12_row_8 : decode cX12_row 8 = .ok (.iconst 0, 1) := by decide +kernel
theorem dX12_row_9 : decode cX12_row 9 = .ok (.iconst 4, 1) := by decide +kernel
theorem dX12_row_10 : decode cX12_row 10 = .ok (.invokestatic 230, 3) := by decide +kernel
theorem dX12_row_13 : decode cX12_row 13 = .ok (.ifCond .eq 9, 3) := by decide +kernel
theorem dX12_row_16 : decode cX12_row 16 = .ok (.iload_n 3, 1) := by decide +kernel
theorem dX12_row_17 : decode cX12_row 17 = .ok (.bipush 60, 2) := by decide +kernel
theorem dX12_row_19 : decode cX12_row 19 = .ok (.if_icmp .le 5, 3) := by decide +kernel
theorem dX12_row_22 : decode cX12_row 22 = .ok (.iconst (-1), 1) := by decide +kernel
theorem dX12_row_23 : decode cX12_row 23 = .ok (.ireturn, 1) := by decide +kernel
theorem dX12_row_24 : decode cX12_row 24 = .ok (.iload_n 3, 1) := by decide +kernel
theorem dX12_row_25 : decode cX12_row 25 = .ok (.ifCond .ge 6, 3) := by decide +kernel
theorem dX12_row_28 : decode cX12_row 28 = .ok (.bipush (-14), 2) := by decide +kernel
theorem dX12_row_30 : decode cX12_row 30 = .ok (.ireturn, 1) := by decide +kernel
theorem dX12_row_31 : decode cX12_row 31 = .ok (.aload_n 0, 1) := by decide +kernel
theorem dX12_row_32 : decode cX12_row 32 = .ok (.getfield 208, 3) := by decide +kernel
theorem dX12_row_35 : decode cX12_row 35 = .ok (.iload_n 1, 1) := by decide +kernel
theorem dX12_row_36 : decode cX12_row 36 = .ok (.bipush (-2), 2) := by decide +kernel
theorem dX12_row_38 : decode cX12_row 38 = .ok (.iload_n 2, 1) := by decide +kernel
theorem dX12_row_39 : decode cX12_row 39 = .ok (.isub, 1) := by decide +kernel
theorem dX12_row_40 : decode cX12_row 40 = .ok (.iastore, 1) := by decide +kernel
theorem dX12_row_41 : decode cX12_row 41 = .ok (.aload_n 0, 1) := by decide +kernel
theorem dX12_row_42 : decode cX12_row 42 = .ok (.getfield 211, 3) := by decide +kernel
theorem dX12_row_45 : decode cX12_row 45 = .ok (.iload_n 1, 1) := by decide +kernel
theorem dX12_row_46 : decode cX12_row 46 = .ok (.iload_n 3, 1) := by decide +kernel
theorem dX12_row_47 : decode cX12_row 47 = .ok (.iastore, 1) := by decide +kernel
theorem dX12_row_48 : decode cX12_row 48 = .ok (.bipush 60, 2) := by decide +kernel
theorem dX12_row_50 : decode cX12_row 50 = .ok (.iload_n 1, 1) := by decide +kernel
theorem dX12_row_51 : decode cX12_row 51 = .ok (.imul, 1) := by decide +kernel
theorem dX12_row_52 : decode cX12_row 52 = .ok (.istore 4, 2) := by decide +kernel
theorem dX12_row_54 : decode cX12_row 54 = .ok (.iload 4, 2) := by decide +kernel
theorem dX12_row_56 : decode cX12_row 56 = .ok (.bipush 60, 2) := by decide +kernel
theorem dX12_row_58 : decode cX12_row 58 = .ok (.iload_n 1, 1) := by decide +kernel
theorem dX12_row_59 : decode cX12_row 59 = .ok (.imul, 1) := by decide +kernel
theorem dX12_row_60 : decode cX12_row 60 = .ok (.bipush 60, 2) := by decide +kernel
theorem dX12_row_62 : decode cX12_row 62 = .ok (.iadd, 1) := by decide +kernel
theorem dX12_row_63 : decode cX12_row 63 = .ok (.if_icmp .ge 25, 3) := by decide +kernel
theorem dX12_row_66 : decode cX12_row 66 = .ok (.aload_n 0, 1) := by decide +kernel
theorem dX12_row_67 : decode cX12_row 67 = .ok (.getfield 214, 3) := by decide +kernel
theorem dX12_row_70 : decode cX12_row 70 = .ok (.iload 4, 2) := by decide +kernel
theorem dX12_row_72 : decode cX12_row 72 = .ok (.lconst 0, 1) := by decide +kernel
theorem dX12_row_73 : decode cX12_row 73 = .ok (.lastore, 1) := by decide +kernel
theorem dX12_row_74 : decode cX12_row 74 = .ok (.aload_n 0, 1) := by decide +kernel
theorem dX12_row_75 : decode cX12_row 75 = .ok (.getfield 218, 3) := by decide +kernel
theorem dX12_row_78 : decode cX12_row 78 = .ok (.iload 4, 2) := by decide +kernel
theorem dX12_row_80 : decode cX12_row 80 = .ok (.iconst 0, 1) := by decide +kernel
theorem dX12_row_81 : decode cX12_row 81 = .ok (.bastore, 1) := by decide +kernel
theorem dX12_row_82 : decode cX12_row 82 = .ok (.iinc 4 1, 3) := by decide +kernel
theorem dX12_row_85 : decode cX12_row 85 = .ok (.goto (-31), 3) := by decide +kernel
theorem dX12_row_88 : decode cX12_row 88 = .ok (.iconst 1, 1) := by decide +kernel
theorem dX12_row_89 : decode cX12_row 89 = .ok (.ireturn, 1) := by decide +kernel
theorem dX12_whyNoPlace_0 : decode cX12_whyNoPlace 0 = .ok (.iload_n 1, 1) := by decide +kernel
theorem dX12_whyNoPlace_1 : decode cX12_whyNoPlace 1 = .ok (.invokestatic 288, 3) := by decide +kernel
theorem dX12_whyNoPlace_4 : decode cX12_whyNoPlace 4 = .ok (.ifCond .ne 5, 3) := by decide +kernel
theorem dX12_whyNoPlace_7 : decode cX12_whyNoPlace 7 = .ok (.iconst (-1), 1) := by decide +kernel
theorem dX12_whyNoPlace_8 : decode cX12_whyNoPlace 8 = .ok (.ireturn, 1) := by decide +kernel
theorem dX12_whyNoPlace_9 : decode cX12_whyNoPlace 9 = .ok (.aload_n 0, 1) := by decide +kernel
theorem dX12_whyNoPlace_10 : decode cX12_whyNoPlace 10 = .ok (.getfield 208, 3) := by decide +kernel
theorem dX12_whyNoPlace_13 : decode cX12_whyNoPlace 13 = .ok (.iload_n 1, 1) := by decide +kernel
theorem dX12_whyNoPlace_14 : decode cX12_whyNoPlace 14 = .ok (.iaload, 1) := by decide +kernel
theorem dX12_whyNoPlace_15 : decode cX12_whyNoPlace 15 = .ok (.iconst (-1), 1) := by decide +kernel
theorem dX12_whyNoPlace_16 : decode cX12_whyNoPlace 16 = .ok (.if_icmp .ne 6, 3) := by decide +kernel
theorem dX12_whyNoPlace_19 : decode cX12_whyNoPlace 19 = .ok (.bipush (-11), 2) := by decide +kernel
theorem dX12_whyNoPlace_21 : decode cX12_whyNoPlace 21 = .ok (.ireturn, 1) := by decide +kernel
theorem dX12_whyNoPlace_22 : decode cX12_whyNoPlace 22 = .ok (.aload_n 0, 1) := by decide +kernel
theorem dX12_whyNoPlace_23 : decode cX12_whyNoPlace 23 = .ok (.getfield 208, 3) := by decide +kernel
theorem dX12_whyNoPlace_26 : decode cX12_whyNoPlace 26 = .ok (.iload_n 1, 1) := by decide +kernel
theorem dX12_whyNoPlace_27 : decode cX12_whyNoPlace 27 = .ok (.iaload, 1) := by decide +kernel
theorem dX12_whyNoPlace_28 : decode cX12_whyNoPlace 28 = .ok (.ifCond .lt 6, 3) := by decide +kernel
theorem dX12_whyNoPlace_31 : decode cX12_whyNoPlace 31 = .ok (.bipush (-12), 2) := by decide +kernel
theorem dX12_whyNoPlace_33 : decode cX12_whyNoPlace 33 = .ok (.ireturn, 1) := by decide +kernel
theorem dX12_whyNoPlace_34 : decode cX12_whyNoPlace 34 = .ok (.iload_n 2, 1) := by decide +kernel
theorem dX12_whyNoPlace_35 : decode cX12_whyNoPlace 35 = .ok (.iconst 0, 1) := by decide +kernel
theorem dX12_whyNoPlace_36 : decode cX12_whyNoPlace 36 = .ok (.aload_n 0, 1) := by decide +kernel
theorem dX12_whyNoPlace_37 : decode cX12_whyNoPlace 37 = .ok (.getfield 211, 3) := by decide +kernel
theorem dX12_whyNoPlace_40 : decode cX12_whyNoPlace 40 = .ok (.iload_n 1, 1) := by decide +kernel
theorem dX12_whyNoPlace_41 : decode cX12_whyNoPlace 41 = .ok (.iaload, 1) := by decide +kernel
theorem dX12_whyNoPlace_42 : decode cX12_whyNoPlace 42 = .ok (.iconst 1, 1) := by decide +kernel
theorem dX12_whyNoPlace_43 : decode cX12_whyNoPlace 43 = .ok (.isub, 1) := by decide +kernel
theorem dX12_whyNoPlace_44 : decode cX12_whyNoPlace 44 = .ok (.invokestatic 230, 3) := by decide +kernel
theorem dX12_whyNoPlace_47 : decode cX12_whyNoPlace 47 = .ok (.ifCond .eq 7, 3) := by decide +kernel
theorem dX12_whyNoPlace_50 : decode cX12_whyNoPlace 50 = .ok (.iconst 0, 1) := by decide +kernel
theorem dX12_whyNoPlace_51 : decode cX12_whyNoPlace 51 = .ok (.goto 5, 3) := by decide +kernel
theorem dX12_whyNoPlace_54 : decode cX12_whyNoPlace 54 = .ok (.bipush (-13), 2) := by decide +kernel
theorem dX12_whyNoPlace_56 : decode cX12_whyNoPlace 56 = .ok (.ireturn, 1) := by decide +kernel
theorem dX12_put_0 : decode cX12_put 0 = .ok (.iload_n 1, 1) := by decide +kernel
theorem dX12_put_1 : decode cX12_put 1 = .ok (.invokestatic 288, 3) := by decide +kernel
theorem dX12_put_4 : decode cX12_put 4 = .ok (.ifCond .eq 27, 3) := by decide +kernel
theorem dX12_put_7 : decode cX12_put 7 = .ok (.aload_n 0, 1) := by decide +kernel
theorem dX12_put_8 : decode cX12_put 8 = .ok (.iload_n 1, 1) := by decide +kernel
theorem dX12_put_9 : decode cX12_put 9 = .ok (.invokevirtual 291, 3) := by decide +kernel
theorem dX12_put_12 : decode cX12_put 12 = .ok (.ifCond .eq 21, 3) := by decide +kernel
theorem dX12_put_15 : decode cX12_put 15 = .ok (.lload_n 3, 1) := by decide +kernel
theorem dX12_put_16 : decode cX12_put 16 = .ok (.ldc2_w 490, 3) := by decide +kernel
theorem dX12_put_19 : decode cX12_put 19 = .ok (.lcmp, 1) := by decide +kernel
theorem dX12_put_20 : decode cX12_put 20 = .ok (.ifCond .lt 11, 3) := by decide +kernel
theorem dX12_put_23 : decode cX12_put 23 = .ok (.lload_n 3, 1) := by decide +kernel
theorem dX12_put_24 : decode cX12_put 24 = .ok (.ldc2_w 492, 3) := by decide +kernel
theorem dX12_put_27 : decode cX12_put 27 = .ok (.lcmp, 1) := by decide +kernel
theorem dX12_put_28 : decode cX12_put 28 = .ok (.ifCond .le 5, 3) := by decide +kernel
theorem dX12_put_31 : decode cX12_put 31 = .ok (.iconst (-1), 1) := by decide +kernel
theorem dX12_put_32 : decode cX12_put 32 = .ok (.ireturn, 1) := by decide +kernel
theorem dX12_put_33 : decode cX12_put 33 = .ok (.aload_n 0, 1) := by decide +kernel
theorem dX12_put_34 : decode cX12_put 34 = .ok (.iload_n 1, 1) := by decide +kernel
theorem dX12_put_35 : decode cX12_put 35 = .ok (.iload_n 2, 1) := by decide +kernel
theorem dX12_put_36 : decode cX12_put 36 = .ok (.invokevirtual 494, 3) := by decide +kernel
theorem dX12_put_39 : decode cX12_put 39 = .ok (.istore 5, 2) := by decide +kernel
theorem dX12_put_41 : decode cX12_put 41 = .ok (.iload 5, 2) := by decide +kernel
theorem dX12_put_43 : decode cX12_put 43 = .ok (.ifCond .ge 6, 3) := by decide +kernel
theorem dX12_put_46 : decode cX12_put 46 = .ok (.iload 5, 2) := by decide +kernel
theorem dX12_put_48 : decode cX12_put 48 = .ok (.ireturn, 1) := by decide +kernel
theorem dX12_put_49 : decode cX12_put 49 = .ok (.bipush (-2), 2) := by decide +kernel
theorem dX12_put_51 : decode cX12_put 51 = .ok (.aload_n 0, 1) := by decide +kernel
theorem dX12_put_52 : decode cX12_put 52 = .ok (.getfield 208, 3) := by decide +kernel
theorem dX12_put_55 : decode cX12_put 55 = .ok (.iload_n 1, 1) := by decide +kernel
theorem dX12_put_56 : decode cX12_put 56 = .ok (.iaload, 1) := by decide +kernel
theorem dX12_put_57 : decode cX12_put 57 = .ok (.isub, 1) := by decide +kernel
theorem dX12_put_58 : decode cX12_put 58 = .ok (.istore 6, 2) := by decide +kernel
theorem dX12_put_60 : decode cX12_put 60 = .ok (.aload_n 0, 1) := by decide +kernel
theorem dX12_put_61 : decode cX12_put 61 = .ok (.getfield 214, 3) := by decide +kernel
theorem dX12_put_64 : decode cX12_put 64 = .ok (.bipush 60, 2) := by decide +kernel
theorem dX12_put_66 : decode cX12_put 66 = .ok (.iload_n 1, 1) := by decide +kernel
theorem dX12_put_67 : decode cX12_put 67 = .ok (.imul, 1) := by decide +kernel
theorem dX12_put_68 : decode cX12_put 68 = .ok (.iload_n 2, 1) := by decide +kernel
theorem dX12_put_69 : decode cX12_put 69 = .ok (.iadd, 1) := by decide +kernel
theorem dX12_put_70 : decode cX12_put 70 = .ok (.iload 6, 2) := by decide +kernel
theorem dX12_put_72 : decode cX12_put 72 = .ok (.ifCond .ne 10, 3) := by decide +kernel
theorem dX12_put_75 : decode cX12_put 75 = .ok (.lload_n 3, 1) := by decide +kernel
theorem dX12_put_76 : decode cX12_put 76 = .ok (.l2i, 1) := by decide +kernel
theorem dX12_put_77 : decode cX12_put 77 = .ok (.i2b, 1) := by decide +kernel
theorem dX12_put_78 : decode cX12_put 78 = .ok (.i2l, 1) := by decide +kernel
theorem dX12_put_79 : decode cX12_put 79 = .ok (.goto 30, 3) := by decide +kernel
theorem dX12_put_82 : decode cX12_put 82 = .ok (.iload 6, 2) := by decide +kernel
theorem dX12_put_84 : decode cX12_put 84 = .ok (.iconst 1, 1) := by decide +kernel
theorem dX12_put_85 : decode cX12_put 85 = .ok (.if_icmp .ne 11, 3) := by decide +kernel
theorem dX12_put_88 : decode cX12_put 88 = .ok (.lload_n 3, 1) := by decide +kernel
theorem dX12_put_89 : decode cX12_put 89 = .ok (.ldc2_w 497, 3) := by decide +kernel
theorem dX12_put_92 : decode cX12_put 92 = .ok (.land, 1) := by decide +kernel
theorem dX12_put_93 : decode cX12_put 93 = .ok (.goto 16, 3) := by decide +kernel
theorem dX12_put_96 : decode cX12_put 96 = .ok (.iload 6, 2) := by decide +kernel
theorem dX12_put_98 : decode cX12_put 98 = .ok (.iconst 2, 1) := by decide +kernel
theorem dX12_put_99 : decode cX12_put 99 = .ok (.if_icmp .ne 9, 3) := by decide +kernel
theorem dX12_put_102 : decode cX12_put 102 = .ok (.lload_n 3, 1) := by decide +kernel
theorem dX12_put_103 : decode cX12_put 103 = .ok (.l2i, 1) := by decide +kernel
theorem dX12_put_104 : decode cX12_put 104 = .ok (.i2l, 1) := by decide +kernel
theorem dX12_put_105 : decode cX12_put 105 = .ok (.goto 4, 3) := by decide +kernel
theorem dX12_put_108 : decode cX12_put 108 = .ok (.lload_n 3, 1) := by decide +kernel
theorem dX12_put_109 : decode cX12_put 109 = .ok (.lastore, 1) := by decide +kernel
theorem dX12_put_110 : decode cX12_put 110 = .ok (.aload_n 0, 1) := by decide +kernel
theorem dX12_put_111 : decode cX12_put 111 = .ok (.getfield 218, 3) := by decide +kernel
theorem dX12_put_114 : decode cX12_put 114 = .ok (.bipush 60, 2) := by decide +kernel
theorem dX12_put_116 : decode cX12_put 116 = .ok (.iload_n 1, 1) := by decide +kernel
theorem dX12_put_117 : decode cX12_put 117 = .ok (.imul, 1) := by decide +kernel
theorem dX12_put_118 : decode cX12_put 118 = .ok (.iload_n 2, 1) := by decide +kernel
theorem dX12_put_119 : decode cX12_put 119 = .ok (.iadd, 1) := by decide +kernel
theorem dX12_put_120 : decode cX12_put 120 = .ok (.iconst 0, 1) := by decide +kernel
theorem dX12_put_121 : decode cX12_put 121 = .ok (.bastore, 1) := by decide +kernel
theorem dX12_put_122 : decode cX12_put 122 = .ok (.iconst 1, 1) := by decide +kernel
theorem dX12_put_123 : decode cX12_put 123 = .ok (.ireturn, 1) := by decide +kernel
theorem dX12_blank_0 : decode cX12_blank 0 = .ok (.iload_n 1, 1) := by decide +kernel
theorem dX12_blank_1 : decode cX12_blank 1 = .ok (.invokestatic 288, 3) := by decide +kernel
theorem dX12_blank_4 : decode cX12_blank 4 = .ok (.ifCond .ne 5, 3) := by decide +kernel
theorem dX12_blank_7 : decode cX12_blank 7 = .ok (.iconst (-1), 1) := by decide +kernel
theorem dX12_blank_8 : decode cX12_blank 8 = .ok (.ireturn, 1) := by decide +kernel
theorem dX12_blank_9 : decode cX12_blank 9 = .ok (.aload_n 0, 1) := by decide +kernel
theorem dX12_blank_10 : decode cX12_blank 10 = .ok (.getfield 208, 3) := by decide +kernel
theorem dX12_blank_13 : decode cX12_blank 13 = .ok (.iload_n 1, 1) := by decide +kernel
theorem dX12_blank_14 : decode cX12_blank 14 = .ok (.iaload, 1) := by decide +kernel
theorem dX12_blank_15 : decode cX12_blank 15 = .ok (.iconst (-1), 1) := by decide +kernel
theorem dX12_blank_16 : decode cX12_blank 16 = .ok (.if_icmp .ne 6, 3) := by decide +kernel
theorem dX12_blank_19 : decode cX12_blank 19 = .ok (.bipush (-11), 2) := by decide +kernel
theorem dX12_blank_21 : decode cX12_blank 21 = .ok (.ireturn, 1) := by decide +kernel
theorem dX12_blank_22 : decode cX12_blank 22 = .ok (.aload_n 0, 1) := by decide +kernel
theorem dX12_blank_23 : decode cX12_blank 23 = .ok (.iload_n 1, 1) := by decide +kernel
theorem dX12_blank_24 : decode cX12_blank 24 = .ok (.invokevirtual 291, 3) := by decide +kernel
theorem dX12_blank_27 : decode cX12_blank 27 = .ok (.ifCond .ne 6, 3) := by decide +kernel
theorem dX12_blank_30 : decode cX12_blank 30 = .ok (.bipush (-12), 2) := by decide +kernel
theorem dX12_blank_32 : decode cX12_blank 32 = .ok (.ireturn, 1) := by decide +kernel
theorem dX12_blank_33 : decode cX12_blank 33 = .ok (.iload_n 2, 1) := by decide +kernel
theorem dX12_blank_34 : decode cX12_blank 34 = .ok (.iconst 0, 1) := by decide +kernel
theorem dX12_blank_35 : decode cX12_blank 35 = .ok (.aload_n 0, 1) := by decide +kernel
theorem dX12_blank_36 : decode cX12_blank 36 = .ok (.getfield 211, 3) := by decide +kernel
theorem dX12_blank_39 : decode cX12_blank 39 = .ok (.iload_n 1, 1) := by decide +kernel
theorem dX12_blank_40 : decode cX12_blank 40 = .ok (.iaload, 1) := by decide +kernel
theorem dX12_blank_41 : decode cX12_blank 41 = .ok (.iconst 1, 1) := by decide +kernel
theorem dX12_blank_42 : decode cX12_blank 42 = .ok (.isub, 1) := by decide +kernel
theorem dX12_blank_43 : decode cX12_blank 43 = .ok (.invokestatic 230, 3) := by decide +kernel
theorem dX12_blank_46 : decode cX12_blank 46 = .ok (.ifCond .ne 6, 3) := by decide +kernel
theorem dX12_blank_49 : decode cX12_blank 49 = .ok (.bipush (-13), 2) := by decide +kernel
theorem dX12_blank_51 : decode cX12_blank 51 = .ok (.ireturn, 1) := by decide +kernel
theorem dX12_blank_52 : decode cX12_blank 52 = .ok (.aload_n 0, 1) := by decide +kernel
theorem dX12_blank_53 : decode cX12_blank 53 = .ok (.getfield 218, 3) := by decide +kernel
theorem dX12_blank_56 : decode cX12_blank 56 = .ok (.bipush 60, 2) := by decide +kernel
theorem dX12_blank_58 : decode cX12_blank 58 = .ok (.iload_n 1, 1) := by decide +kernel
theorem dX12_blank_59 : decode cX12_blank 59 = .ok (.imul, 1) := by decide +kernel
theorem dX12_blank_60 : decode cX12_blank 60 = .ok (.iload_n 2, 1) := by decide +kernel
theorem dX12_blank_61 : decode cX12_blank 61 = .ok (.iadd, 1) := by decide +kernel
theorem dX12_blank_62 : decode cX12_blank 62 = .ok (.iconst 1, 1) := by decide +kernel
theorem dX12_blank_63 : decode cX12_blank 63 = .ok (.bastore, 1) := by decide +kernel
theorem dX12_blank_64 : decode cX12_blank 64 = .ok (.iconst 1, 1) := by decide +kernel
theorem dX12_blank_65 : decode cX12_blank 65 = .ok (.ireturn, 1) := by decide +kernel
theorem dX12_element_0 : decode cX12_element 0 = .ok (.aload_n 0, 1) := by decide +kernel
theorem dX12_element_1 : decode cX12_element 1 = .ok (.iload_n 1, 1) := by decide +kernel
theorem dX12_element_2 : decode cX12_element 2 = .ok (.iload_n 2, 1) := by decide +kernel
theorem dX12_element_3 : decode cX12_element 3 = .ok (.invokevirtual 494, 3) := by decide +kernel
theorem dX12_element_6 : decode cX12_element 6 = .ok (.ifCond .ge 7, 3) := by decide +kernel
theorem dX12_element_9 : decode cX12_element 9 = .ok (.ldc2_w 501, 3) := by decide +kernel
theorem dX12_element_12 : decode cX12_element 12 = .ok (.lreturn, 1) := by decide +kernel
theorem dX12_element_13 : decode cX12_element 13 = .ok (.aload_n 0, 1) := by decide +kernel
theorem dX12_element_14 : decode cX12_element 14 = .ok (.getfield 218, 3) := by decide +kernel
theorem dX12_element_17 : decode cX12_element 17 = .ok (.bipush 60, 2) := by decide +kernel
theorem dX12_element_19 : decode cX12_element 19 = .ok (.iload_n 1, 1) := by decide +kernel
theorem dX12_element_20 : decode cX12_element 20 = .ok (.imul, 1) := by decide +kernel
theorem dX12_element_21 : decode cX12_element 21 = .ok (.iload_n 2, 1) := by decide +kernel
theorem dX12_element_22 : decode cX12_element 22 = .ok (.iadd, 1) := by decide +kernel
theorem dX12_element_23 : decode cX12_element 23 = .ok (.baload, 1) := by decide +kernel
theorem dX12_element_24 : decode cX12_element 24 = .ok (.ifCond .eq 9, 3) := by decide +kernel
theorem dX12_element_27 : decode cX12_element 27 = .ok (.ldc2_w 503, 3) := by decide +kernel
theorem dX12_element_30 : decode cX12_element 30 = .ok (.goto 14, 3) := by decide +kernel
theorem dX12_element_33 : decode cX12_element 33 = .ok (.aload_n 0, 1) := by decide +kernel
theorem dX12_element_34 : decode cX12_element 34 = .ok (.getfield 214, 3) := by decide +kernel
theorem dX12_element_37 : decode cX12_element 37 = .ok (.bipush 60, 2) := by decide +kernel
theorem dX12_element_39 : decode cX12_element 39 = .ok (.iload_n 1, 1) := by decide +kernel
theorem dX12_element_40 : decode cX12_element 40 = .ok (.imul, 1) := by decide +kernel
theorem dX12_element_41 : decode cX12_element 41 = .ok (.iload_n 2, 1) := by decide +kernel
theorem dX12_element_42 : decode cX12_element 42 = .ok (.iadd, 1) := by decide +kernel
theorem dX12_element_43 : decode cX12_element 43 = .ok (.laload, 1) := by decide +kernel
theorem dX12_element_44 : decode cX12_element 44 = .ok (.lreturn, 1) := by decide +kernel
theorem dX12_shift_0 : decode cX12_shift 0 = .ok (.iload_n 1, 1) := by decide +kernel
theorem dX12_shift_1 : decode cX12_shift 1 = .ok (.invokestatic 288, 3) := by decide +kernel
theorem dX12_shift_4 : decode cX12_shift 4 = .ok (.ifCond .eq 10, 3) := by decide +kernel
theorem dX12_shift_7 : decode cX12_shift 7 = .ok (.iload_n 3, 1) := by decide +kernel
theorem dX12_shift_8 : decode cX12_shift 8 = .ok (.invokestatic 288, 3) := by decide +kernel
theorem dX12_shift_11 : decode cX12_shift 11 = .ok (.ifCond .ne 5, 3) := by decide +kernel
theorem dX12_shift_14 : decode cX12_shift 14 = .ok (.iconst (-1), 1) := by decide +kernel
theorem dX12_shift_15 : decode cX12_shift 15 = .ok (.ireturn, 1) := by decide +kernel
theorem dX12_shift_16 : decode cX12_shift 16 = .ok (.aload_n 0, 1) := by decide +kernel
theorem dX12_shift_17 : decode cX12_shift 17 = .ok (.getfield 208, 3) := by decide +kernel
theorem dX12_shift_20 : decode cX12_shift 20 = .ok (.iload_n 1, 1) := by decide +kernel
theorem dX12_shift_21 : decode cX12_shift 21 = .ok (.iaload, 1) := by decide +kernel
theorem dX12_shift_22 : decode cX12_shift 22 = .ok (.iconst (-1), 1) := by decide +kernel
theorem dX12_shift_23 : decode cX12_shift 23 = .ok (.if_icmp .eq 13, 3) := by decide +kernel
theorem dX12_shift_26 : decode cX12_shift 26 = .ok (.aload_n 0, 1) := by decide +kernel
theorem dX12_shift_27 : decode cX12_shift 27 = .ok (.getfield 208, 3) := by decide +kernel
theorem dX12_shift_30 : decode cX12_shift 30 = .ok (.iload_n 3, 1) := by decide +kernel
theorem dX12_shift_31 : decode cX12_shift 31 = .ok (.iaload, 1) := by decide +kernel
theorem dX12_shift_32 : decode cX12_shift 32 = .ok (.iconst (-1), 1) := by decide +kernel
theorem dX12_shift_33 : decode cX12_shift 33 = .ok (.if_icmp .ne 6, 3) := by decide +kernel
theorem dX12_shift_36 : decode cX12_shift 36 = .ok (.bipush (-11), 2) := by decide +kernel
theorem dX12_shift_38 : decode cX12_shift 38 = .ok (.ireturn, 1) := by decide +kernel
theorem dX12_shift_39 : decode cX12_shift 39 = .ok (.aload_n 0, 1) := by decide +kernel
theorem dX12_shift_40 : decode cX12_shift 40 = .ok (.getfield 208, 3) := by decide +kernel
theorem dX12_shift_43 : decode cX12_shift 43 = .ok (.iload_n 1, 1) := by decide +kernel
theorem dX12_shift_44 : decode cX12_shift 44 = .ok (.iaload, 1) := by decide +kernel
theorem dX12_shift_45 : decode cX12_shift 45 = .ok (.ifCond .ge 18, 3) := by decide +kernel
theorem dX12_shift_48 : decode cX12_shift 48 = .ok (.aload_n 0, 1) := by decide +kernel
theorem dX12_shift_49 : decode cX12_shift 49 = .ok (.getfield 208, 3) := by decide +kernel
theorem dX12_shift_52 : decode cX12_shift 52 = .ok (.iload_n 1, 1) := by decide +kernel
theorem dX12_shift_53 : decode cX12_shift 53 = .ok (.iaload, 1) := by decide +kernel
theorem dX12_shift_54 : decode cX12_shift 54 = .ok (.aload_n 0, 1) := by decide +kernel
theorem dX12_shift_55 : decode cX12_shift 55 = .ok (.getfield 208, 3) := by decide +kernel
theorem dX12_shift_58 : decode cX12_shift 58 = .ok (.iload_n 3, 1) := by decide +kernel
theorem dX12_shift_59 : decode cX12_shift 59 = .ok (.iaload, 1) := by decide +kernel
theorem dX12_shift_60 : decode cX12_shift 60 = .ok (.if_icmp .eq 6, 3) := by decide +kernel
theorem dX12_shift_63 : decode cX12_shift 63 = .ok (.bipush (-12), 2) := by decide +kernel
theorem dX12_shift_65 : decode cX12_shift 65 = .ok (.ireturn, 1) := by decide +kernel
theorem dX12_shift_66 : decode cX12_shift 66 = .ok (.iload 5, 2) := by decide +kernel
theorem dX12_shift_68 : decode cX12_shift 68 = .ok (.ifCond .lt 39, 3) := by decide +kernel
theorem dX12_shift_71 : decode cX12_shift 71 = .ok (.iload_n 2, 1) := by decide +kernel
theorem dX12_shift_72 : decode cX12_shift 72 = .ok (.ifCond .lt 35, 3) := by decide +kernel
theorem dX12_shift_75 : decode cX12_shift 75 = .ok (.iload 4, 2) := by decide +kernel
theorem dX12_shift_77 : decode cX12_shift 77 = .ok (.ifCond .lt 30, 3) := by decide +kernel
theorem dX12_shift_80 : decode cX12_shift 80 = .ok (.iload_n 2, 1) := by decide +kernel
theorem dX12_shift_81 : decode cX12_shift 81 = .ok (.aload_n 0, 1) := by decide +kernel
theorem dX12_shift_82 : decode cX12_shift 82 = .ok (.getfield 211, 3) := by decide +kernel
theorem dX12_shift_85 : decode cX12_shift 85 = .ok (.iload_n 1, 1) := by decide +kernel
theorem dX12_shift_86 : decode cX12_shift 86 = .ok (.iaload, 1) := by decide +kernel
theorem dX12_shift_87 : decode cX12_shift 87 = .ok (.iload 5, 2) := by decide +kernel
theorem dX12_shift_89 : decode cX12_shift 89 = .ok (.isub, 1) := by decide +kernel
theorem dX12_shift_90 : decode cX12_shift 90 = .ok (.if_icmp .gt 17, 3) := by decide +kernel
theorem dX12_shift_93 : decode cX12_shift 93 = .ok (.iload 4, 2) := by decide +kernel
theorem dX12_shift_95 : decode cX12_shift 95 = .ok (.aload_n 0, 1) := by decide +kernel
theorem dX12_shift_96 : decode cX12_shift 96 = .ok (.getfield 211, 3) := by decide +kernel
theorem dX12_shift_99 : decode cX12_shift 99 = .ok (.iload_n 3, 1) := by decide +kernel
theorem dX12_shift_100 : decode cX12_shift 100 = .ok (.iaload, 1) := by decide +kernel
theorem dX12_shift_101 : decode cX12_shift 101 = .ok (.iload 5, 2) := by decide +kernel
theorem dX12_shift_103 : decode cX12_shift 103 = .ok (.isub, 1) := by decide +kernel
theorem dX12_shift_104 : decode cX12_shift 104 = .ok (.if_icmp .le 6, 3) := by decide +kernel
theorem dX12_shift_107 : decode cX12_shift 107 = .ok (.bipush (-13), 2) := by decide +kernel
theorem dX12_shift_109 : decode cX12_shift 109 = .ok (.ireturn, 1) := by decide +kernel
theorem dX12_shift_110 : decode cX12_shift 110 = .ok (.iconst 0, 1) := by decide +kernel
theorem dX12_shift_111 : decode cX12_shift 111 = .ok (.istore 6, 2) := by decide +kernel
theorem dX12_shift_113 : decode cX12_shift 113 = .ok (.iload 6, 2) := by decide +kernel
theorem dX12_shift_115 : decode cX12_shift 115 = .ok (.iload 5, 2) := by decide +kernel
theorem dX12_shift_117 : decode cX12_shift 117 = .ok (.if_icmp .ge 51, 3) := by decide +kernel
theorem dX12_shift_120 : decode cX12_shift 120 = .ok (.aload_n 0, 1) := by decide +kernel
theorem dX12_shift_121 : decode cX12_shift 121 = .ok (.getfield 221, 3) := by decide +kernel
theorem dX12_shift_124 : decode cX12_shift 124 = .ok (.iload 6, 2) := by decide +kernel
theorem dX12_shift_126 : decode cX12_shift 126 = .ok (.aload_n 0, 1) := by decide +kernel
theorem dX12_shift_127 : decode cX12_shift 127 = .ok (.getfield 214, 3) := by decide +kernel
theorem dX12_shift_130 : decode cX12_shift 130 = .ok (.bipush 60, 2) := by decide +kernel
theorem dX12_shift_132 : decode cX12_shift 132 = .ok (.iload_n 1, 1) := by decide +kernel
theorem dX12_shift_133 : decode cX12_shift 133 = .ok (.imul, 1) := by decide +kernel
theorem dX12_shift_134 : decode cX12_shift 134 = .ok (.iload_n 2, 1) := by decide +kernel
theorem dX12_shift_135 : decode cX12_shift 135 = .ok (.iadd, 1) := by decide +kernel
theorem dX12_shift_136 : decode cX12_shift 136 = .ok (.iload 6, 2) := by decide +kernel
theorem dX12_shift_138 : decode cX12_shift 138 = .ok (.iadd, 1) := by decide +kernel
theorem dX12_shift_139 : decode cX12_shift 139 = .ok (.laload, 1) := by decide +kernel
theorem dX12_shift_140 : decode cX12_shift 140 = .ok (.lastore, 1) := by decide +kernel
theorem dX12_shift_141 : decode cX12_shift 141 = .ok (.aload_n 0, 1) := by decide +kernel
theorem dX12_shift_142 : decode cX12_shift 142 = .ok (.getfield 224, 3) := by decide +kernel
theorem dX12_shift_145 : decode cX12_shift 145 = .ok (.iload 6, 2) := by decide +kernel
theorem dX12_shift_147 : decode cX12_shift 147 = .ok (.aload_n 0, 1) := by decide +kernel
theorem dX12_shift_148 : decode cX12_shift 148 = .ok (.getfield 218, 3) := by decide +kernel
theorem dX12_shift_151 : decode cX12_shift 151 = .ok (.bipush 60, 2) := by decide +kernel
theorem dX12_shift_153 : decode cX12_shift 153 = .ok (.iload_n 1, 1) := by decide +kernel
theorem dX12_shift_154 : decode cX12_shift 154 = .ok (.imul, 1) := by decide +kernel
theorem dX12_shift_155 : decode cX12_shift 155 = .ok (.iload_n 2, 1) := by decide +kernel
theorem dX12_shift_156 : decode cX12_shift 156 = .ok (.iadd, 1) := by decide +kernel
theorem dX12_shift_157 : decode cX12_shift 157 = .ok (.iload 6, 2) := by decide +kernel
theorem dX12_shift_159 : decode cX12_shift 159 = .ok (.iadd, 1) := by decide +kernel
theorem dX12_shift_160 : decode cX12_shift 160 = .ok (.baload, 1) := by decide +kernel
theorem dX12_shift_161 : decode cX12_shift 161 = .ok (.bastore, 1) := by decide +kernel
theorem dX12_shift_162 : decode cX12_shift 162 = .ok (.iinc 6 1, 3) := by decide +kernel
theorem dX12_shift_165 : decode cX12_shift 165 = .ok (.goto (-52), 3) := by decide +kernel
theorem dX12_shift_168 : decode cX12_shift 168 = .ok (.iconst 0, 1) := by decide +kernel
theorem dX12_shift_169 : decode cX12_shift 169 = .ok (.istore 6, 2) := by decide +kernel
theorem dX12_shift_171 : decode cX12_shift 171 = .ok (.iload 6, 2) := by decide +kernel
theorem dX12_shift_173 : decode cX12_shift 173 = .ok (.iload 5, 2) := by decide +kernel
theorem dX12_shift_175 : decode cX12_shift 175 = .ok (.if_icmp .ge 53, 3) := by decide +kernel
theorem dX12_shift_178 : decode cX12_shift 178 = .ok (.aload_n 0, 1) := by decide +kernel
theorem dX12_shift_179 : decode cX12_shift 179 = .ok (.getfield 214, 3) := by decide +kernel
theorem dX12_shift_182 : decode cX12_shift 182 = .ok (.bipush 60, 2) := by decide +kernel
theorem dX12_shift_184 : decode cX12_shift 184 = .ok (.iload_n 3, 1) := by decide +kernel
theorem dX12_shift_185 : decode cX12_shift 185 = .ok (.imul, 1) := by decide +kernel
theorem dX12_shift_186 : decode cX12_shift 186 = .ok (.iload 4, 2) := by decide +kernel
theorem dX12_shift_188 : decode cX12_shift 188 = .ok (.iadd, 1) := by decide +kernel
theorem dX12_shift_189 : decode cX12_shift 189 = .ok (.iload 6, 2) := by decide +kernel
theorem dX12_shift_191 : decode cX12_shift 191 = .ok (.iadd, 1) := by decide +kernel
theorem dX12_shift_192 : decode cX12_shift 192 = .ok (.aload_n 0, 1) := by decide +kernel
theorem dX12_shift_193 : decode cX12_shift 193 = .ok (.getfield 221, 3) := by decide +kernel
theorem dX12_shift_196 : decode cX12_shift 196 = .ok (.iload 6, 2) := by decide +kernel
theorem dX12_shift_198 : decode cX12_shift 198 = .ok (.laload, 1) := by decide +kernel
theorem dX12_shift_199 : decode cX12_shift 199 = .ok (.lastore, 1) := by decide +kernel
theorem dX12_shift_200 : decode cX12_shift 200 = .ok (.aload_n 0, 1) := by decide +kernel
theorem dX12_shift_201 : decode cX12_shift 201 = .ok (.getfield 218, 3) := by decide +kernel
theorem dX12_shift_204 : decode cX12_shift 204 = .ok (.bipush 60, 2) := by decide +kernel
theorem dX12_shift_206 : decode cX12_shift 206 = .ok (.iload_n 3, 1) := by decide +kernel
theorem dX12_shift_207 : decode cX12_shift 207 = .ok (.imul, 1) := by decide +kernel
theorem dX12_shift_208 : decode cX12_shift 208 = .ok (.iload 4, 2) := by decide +kernel
theorem dX12_shift_210 : decode cX12_shift 210 = .ok (.iadd, 1) := by decide +kernel
theorem dX12_shift_211 : decode cX12_shift 211 = .ok (.iload 6, 2) := by decide +kernel
theorem dX12_shift_213 : decode cX12_shift 213 = .ok (.iadd, 1) := by decide +kernel
theorem dX12_shift_214 : decode cX12_shift 214 = .ok (.aload_n 0, 1) := by decide +kernel
theorem dX12_shift_215 : decode cX12_shift 215 = .ok (.getfield 224, 3) := by decide +kernel
theorem dX12_shift_218 : decode cX12_shift 218 = .ok (.iload 6, 2) := by decide +kernel
theorem dX12_shift_220 : decode cX12_shift 220 = .ok (.baload, 1) := by decide +kernel
theorem dX12_shift_221 : decode cX12_shift 221 = .ok (.bastore, 1) := by decide +kernel
theorem dX12_shift_222 : decode cX12_shift 222 = .ok (.iinc 6 1, 3) := by decide +kernel
theorem dX12_shift_225 : decode cX12_shift 225 = .ok (.goto (-54), 3) := by decide +kernel
theorem dX12_shift_228 : decode cX12_shift 228 = .ok (.iload 5, 2) := by decide +kernel
theorem dX12_shift_230 : decode cX12_shift 230 = .ok (.ireturn, 1) := by decide +kernel
theorem dX12_taken_0 : decode cX12_taken 0 = .ok (.iload_n 1, 1) := by decide +kernel
theorem dX12_taken_1 : decode cX12_taken 1 = .ok (.invokestatic 288, 3) := by decide +kernel
theorem dX12_taken_4 : decode cX12_taken 4 = .ok (.ifCond .eq 13, 3) := by decide +kernel
theorem dX12_taken_7 : decode cX12_taken 7 = .ok (.iload_n 2, 1) := by decide +kernel
theorem dX12_taken_8 : decode cX12_taken 8 = .ok (.iconst 0, 1) := by decide +kernel
theorem dX12_taken_9 : decode cX12_taken 9 = .ok (.bipush 7, 2) := by decide +kernel
theorem dX12_taken_11 : decode cX12_taken 11 = .ok (.invokestatic 230, 3) := by decide +kernel
theorem dX12_taken_14 : decode cX12_taken 14 = .ok (.ifCond .ne 5, 3) := by decide +kernel
theorem dX12_taken_17 : decode cX12_taken 17 = .ok (.iconst (-1), 1) := by decide +kernel
theorem dX12_taken_18 : decode cX12_taken 18 = .ok (.ireturn, 1) := by decide +kernel
theorem dX12_taken_19 : decode cX12_taken 19 = .ok (.aload_n 0, 1) := by decide +kernel
theorem dX12_taken_20 : decode cX12_taken 20 = .ok (.getfield 208, 3) := by decide +kernel
theorem dX12_taken_23 : decode cX12_taken 23 = .ok (.iload_n 1, 1) := by decide +kernel
theorem dX12_taken_24 : decode cX12_taken 24 = .ok (.iaload, 1) := by decide +kernel
theorem dX12_taken_25 : decode cX12_taken 25 = .ok (.iconst (-1), 1) := by decide +kernel
theorem dX12_taken_26 : decode cX12_taken 26 = .ok (.if_icmp .ne 6, 3) := by decide +kernel
theorem dX12_taken_29 : decode cX12_taken 29 = .ok (.bipush (-11), 2) := by decide +kernel
theorem dX12_taken_31 : decode cX12_taken 31 = .ok (.ireturn, 1) := by decide +kernel
theorem dX12_taken_32 : decode cX12_taken 32 = .ok (.aload_n 0, 1) := by decide +kernel
theorem dX12_taken_33 : decode cX12_taken 33 = .ok (.getfield 208, 3) := by decide +kernel
theorem dX12_taken_36 : decode cX12_taken 36 = .ok (.iload_n 1, 1) := by decide +kernel
theorem dX12_taken_37 : decode cX12_taken 37 = .ok (.iaload, 1) := by decide +kernel
theorem dX12_taken_38 : decode cX12_taken 38 = .ok (.ifCond .lt 35, 3) := by decide +kernel
theorem dX12_taken_41 : decode cX12_taken 41 = .ok (.aload_n 0, 1) := by decide +kernel
theorem dX12_taken_42 : decode cX12_taken 42 = .ok (.getfield 17, 3) := by decide +kernel
theorem dX12_taken_45 : decode cX12_taken 45 = .ok (.aload_n 0, 1) := by decide +kernel
theorem dX12_taken_46 : decode cX12_taken 46 = .ok (.getfield 208, 3) := by decide +kernel
theorem dX12_taken_49 : decode cX12_taken 49 = .ok (.iload_n 1, 1) := by decide +kernel
theorem dX12_taken_50 : decode cX12_taken 50 = .ok (.iaload, 1) := by decide +kernel
theorem dX12_taken_51 : decode cX12_taken 51 = .ok (.iaload, 1) := by decide +kernel
theorem dX12_taken_52 : decode cX12_taken 52 = .ok (.iload_n 2, 1) := by decide +kernel
theorem dX12_taken_53 : decode cX12_taken 53 = .ok (.invokestatic 248, 3) := by decide +kernel
theorem dX12_taken_56 : decode cX12_taken 56 = .ok (.ifCond .eq 17, 3) := by decide +kernel
theorem dX12_taken_59 : decode cX12_taken 59 = .ok (.aload_n 0, 1) := by decide +kernel
theorem dX12_taken_60 : decode cX12_taken 60 = .ok (.getfield 17, 3) := by decide +kernel
theorem dX12_taken_63 : decode cX12_taken 63 = .ok (.aload_n 0, 1) := by decide +kernel
theorem dX12_taken_64 : decode cX12_taken 64 = .ok (.getfield 208, 3) := by decide +kernel
theorem dX12_taken_67 : decode cX12_taken 67 = .ok (.iload_n 1, 1) := by decide +kernel
theorem dX12_taken_68 : decode cX12_taken 68 = .ok (.iaload, 1) := by decide +kernel
theorem dX12_taken_69 : decode cX12_taken 69 = .ok (.iaload, 1) := by decide +kernel
theorem dX12_taken_70 : decode cX12_taken 70 = .ok (.goto 5, 3) := by decide +kernel
theorem dX12_taken_73 : decode cX12_taken 73 = .ok (.bipush (-12), 2) := by decide +kernel
theorem dX12_taken_75 : decode cX12_taken 75 = .ok (.ireturn, 1) := by decide +kernel
