theorem dX12_last_27 : decode cX12_last 27 = .ok (.ifCond .ne 8, 3) := by decide +kernel
theorem dX12_last_30 : decode cX12_last 30 = .ok (.bipush (-2), 2) := by decide +kernel
theorem dX12_last_32 : decode cX12_last 32 = .ok (.goto 9, 3) := by decide +kernel
theorem dX12_last_35 : decode cX12_last 35 = .ok (.aload_n 0, 1) := by decide +kernel
theorem dX12_last_36 : decode cX12_last 36 = .ok (.iload_n 1, 1) := by decide +kernel
theorem dX12_last_37 : decode cX12_last 37 = .ok (.iload_n 2, 1) := by decide +kernel
theorem dX12_last_38 : decode cX12_last 38 = .ok (.invokevirtual 424, 3) := by decide +kernel
theorem dX12_last_41 : decode cX12_last 41 = .ok (.ireturn, 1) := by decide +kernel
theorem dX12_best_0 : decode cX12_best 0 = .ok (.iload_n 1, 1) := by decide +kernel
theorem dX12_best_1 : decode cX12_best 1 = .ok (.iconst 0, 1) := by decide +kernel
theorem dX12_best_2 : decode cX12_best 2 = .ok (.sipush 999, 3) := by decide +kernel
theorem dX12_best_5 : decode cX12_best 5 = .ok (.invokestatic 230, 3) := by decide +kernel
theorem dX12_best_8 : decode cX12_best 8 = .ok (.ifCond .ne 5, 3) := by decide +kernel
theorem dX12_best_11 : decode cX12_best 11 = .ok (.iconst (-1), 1) := by decide +kernel
theorem dX12_best_12 : decode cX12_best 12 = .ok (.ireturn, 1) := by decide +kernel
theorem dX12_best_13 : decode cX12_best 13 = .ok (.aload_n 0, 1) := by decide +kernel
theorem dX12_best_14 : decode cX12_best 14 = .ok (.invokevirtual 394, 3) := by decide +kernel
theorem dX12_best_17 : decode cX12_best 17 = .ok (.ifCond .ne 6, 3) := by decide +kernel
theorem dX12_best_20 : decode cX12_best 20 = .ok (.bipush (-2), 2) := by decide +kernel
theorem dX12_best_22 : decode cX12_best 22 = .ok (.ireturn, 1) := by decide +kernel
theorem dX12_best_23 : decode cX12_best 23 = .ok (.iconst 0, 1) := by decide +kernel
theorem dX12_best_24 : decode cX12_best 24 = .ok (.istore_n 2, 1) := by decide +kernel
theorem dX12_best_25 : decode cX12_best 25 = .ok (.iconst 1, 1) := by decide +kernel
theorem dX12_best_26 : decode cX12_best 26 = .ok (.istore_n 3, 1) := by decide +kernel
theorem dX12_best_27 : decode cX12_best 27 = .ok (.iload_n 3, 1) := by decide +kernel
theorem dX12_best_28 : decode cX12_best 28 = .ok (.bipush 10, 2) := by decide +kernel
theorem dX12_best_30 : decode cX12_best 30 = .ok (.if_icmp .ge 26, 3) := by decide +kernel
theorem dX12_best_33 : decode cX12_best 33 = .ok (.aload_n 0, 1) := by decide +kernel
theorem dX12_best_34 : decode cX12_best 34 = .ok (.iload_n 1, 1) := by decide +kernel
theorem dX12_best_35 : decode cX12_best 35 = .ok (.iload_n 3, 1) := by decide +kernel
theorem dX12_best_36 : decode cX12_best 36 = .ok (.invokevirtual 424, 3) := by decide +kernel
theorem dX12_best_39 : decode cX12_best 39 = .ok (.aload_n 0, 1) := by decide +kernel
theorem dX12_best_40 : decode cX12_best 40 = .ok (.iload_n 1, 1) := by decide +kernel
theorem dX12_best_41 : decode cX12_best 41 = .ok (.iload_n 2, 1) := by decide +kernel
theorem dX12_best_42 : decode cX12_best 42 = .ok (.invokevirtual 424, 3) := by decide +kernel
theorem dX12_best_45 : decode cX12_best 45 = .ok (.if_icmp .le 5, 3) := by decide +kernel
theorem dX12_best_48 : decode cX12_best 48 = .ok (.iload_n 3, 1) := by decide +kernel
theorem dX12_best_49 : decode cX12_best 49 = .ok (.istore_n 2, 1) := by decide +kernel
theorem dX12_best_50 : decode cX12_best 50 = .ok (.iinc 3 1, 3) := by decide +kernel
theorem dX12_best_53 : decode cX12_best 53 = .ok (.goto (-26), 3) := by decide +kernel
theorem dX12_best_56 : decode cX12_best 56 = .ok (.iload_n 2, 1) := by decide +kernel
theorem dX12_best_57 : decode cX12_best 57 = .ok (.ireturn, 1) := by decide +kernel
theorem dX12_down_0 : decode cX12_down 0 = .ok (.aload_n 0, 1) := by decide +kernel
theorem dX12_down_1 : decode cX12_down 1 = .ok (.iload_n 1, 1) := by decide +kernel
theorem dX12_down_2 : decode cX12_down 2 = .ok (.invokevirtual 245, 3) := by decide +kernel
theorem dX12_down_5 : decode cX12_down 5 = .ok (.ifCond .eq 23, 3) := by decide +kernel
theorem dX12_down_8 : decode cX12_down 8 = .ok (.aload_n 0, 1) := by decide +kernel
theorem dX12_down_9 : decode cX12_down 9 = .ok (.getfield 17, 3) := by decide +kernel
theorem dX12_down_12 : decode cX12_down 12 = .ok (.iload_n 1, 1) := by decide +kernel
theorem dX12_down_13 : decode cX12_down 13 = .ok (.iaload, 1) := by decide +kernel
theorem dX12_down_14 : decode cX12_down 14 = .ok (.iconst 3, 1) := by decide +kernel
theorem dX12_down_15 : decode cX12_down 15 = .ok (.if_icmp .ne 13, 3) := by decide +kernel
theorem dX12_down_18 : decode cX12_down 18 = .ok (.iload_n 3, 1) := by decide +kernel
theorem dX12_down_19 : decode cX12_down 19 = .ok (.iconst 1, 1) := by decide +kernel
theorem dX12_down_20 : decode cX12_down 20 = .ok (.bipush 9, 2) := by decide +kernel
theorem dX12_down_22 : decode cX12_down 22 = .ok (.invokestatic 230, 3) := by decide +kernel
theorem dX12_down_25 : decode cX12_down 25 = .ok (.ifCond .ne 5, 3) := by decide +kernel
theorem dX12_down_28 : decode cX12_down 28 = .ok (.iconst (-1), 1) := by decide +kernel
theorem dX12_down_29 : decode cX12_down 29 = .ok (.ireturn, 1) := by decide +kernel
theorem dX12_down_30 : decode cX12_down 30 = .ok (.iload_n 2, 1) := by decide +kernel
theorem dX12_down_31 : decode cX12_down 31 = .ok (.ifCond .le 24, 3) := by decide +kernel
theorem dX12_down_34 : decode cX12_down 34 = .ok (.iload_n 2, 1) := by decide +kernel
theorem dX12_down_35 : decode cX12_down 35 = .ok (.bipush 10, 2) := by decide +kernel
theorem dX12_down_37 : decode cX12_down 37 = .ok (.irem, 1) := by decide +kernel
theorem dX12_down_38 : decode cX12_down 38 = .ok (.ifCond .ne 17, 3) := by decide +kernel
theorem dX12_down_41 : decode cX12_down 41 = .ok (.iload_n 2, 1) := by decide +kernel
theorem dX12_down_42 : decode cX12_down 42 = .ok (.bipush 10, 2) := by decide +kernel
theorem dX12_down_44 : decode cX12_down 44 = .ok (.idiv, 1) := by decide +kernel
theorem dX12_down_45 : decode cX12_down 45 = .ok (.sipush 999, 3) := by decide +kernel
theorem dX12_down_48 : decode cX12_down 48 = .ok (.if_icmp .gt 7, 3) := by decide +kernel
theorem dX12_down_51 : decode cX12_down 51 = .ok (.iconst 1, 1) := by decide +kernel
theorem dX12_down_52 : decode cX12_down 52 = .ok (.goto 4, 3) := by decide +kernel
theorem dX12_down_55 : decode cX12_down 55 = .ok (.iconst 0, 1) := by decide +kernel
theorem dX12_down_56 : decode cX12_down 56 = .ok (.istore 4, 2) := by decide +kernel
theorem dX12_down_58 : decode cX12_down 58 = .ok (.iload 4, 2) := by decide +kernel
theorem dX12_down_60 : decode cX12_down 60 = .ok (.ifCond .ne 16, 3) := by decide +kernel
theorem dX12_down_63 : decode cX12_down 63 = .ok (.iload_n 2, 1) := by decide +kernel
theorem dX12_down_64 : decode cX12_down 64 = .ok (.bipush 11, 2) := by decide +kernel
theorem dX12_down_66 : decode cX12_down 66 = .ok (.bipush 19, 2) := by decide +kernel
theorem dX12_down_68 : decode cX12_down 68 = .ok (.invokestatic 230, 3) := by decide +kernel
theorem dX12_down_71 : decode cX12_down 71 = .ok (.ifCond .ne 5, 3) := by decide +kernel
theorem dX12_down_74 : decode cX12_down 74 = .ok (.iconst (-1), 1) := by decide +kernel
theorem dX12_down_75 : decode cX12_down 75 = .ok (.ireturn, 1) := by decide +kernel
theorem dX12_down_76 : decode cX12_down 76 = .ok (.aload_n 0, 1) := by decide +kernel
theorem dX12_down_77 : decode cX12_down 77 = .ok (.getfield 38, 3) := by decide +kernel
theorem dX12_down_80 : decode cX12_down 80 = .ok (.iload_n 1, 1) := by decide +kernel
theorem dX12_down_81 : decode cX12_down 81 = .ok (.iaload, 1) := by decide +kernel
theorem dX12_down_82 : decode cX12_down 82 = .ok (.ifCond .ne 6, 3) := by decide +kernel
theorem dX12_down_85 : decode cX12_down 85 = .ok (.bipush (-2), 2) := by decide +kernel
theorem dX12_down_87 : decode cX12_down 87 = .ok (.ireturn, 1) := by decide +kernel
theorem dX12_down_88 : decode cX12_down 88 = .ok (.aload_n 0, 1) := by decide +kernel
theorem dX12_down_89 : decode cX12_down 89 = .ok (.getfield 428, 3) := by decide +kernel
theorem dX12_down_92 : decode cX12_down 92 = .ok (.bipush 40, 2) := by decide +kernel
theorem dX12_down_94 : decode cX12_down 94 = .ok (.if_icmp .ne 6, 3) := by decide +kernel
theorem dX12_down_97 : decode cX12_down 97 = .ok (.bipush (-3), 2) := by decide +kernel
theorem dX12_down_99 : decode cX12_down 99 = .ok (.ireturn, 1) := by decide +kernel
theorem dX12_down_100 : decode cX12_down 100 = .ok (.aload_n 0, 1) := by decide +kernel
theorem dX12_down_101 : decode cX12_down 101 = .ok (.getfield 151, 3) := by decide +kernel
theorem dX12_down_104 : decode cX12_down 104 = .ok (.iload_n 1, 1) := by decide +kernel
theorem dX12_down_105 : decode cX12_down 105 = .ok (.iaload, 1) := by decide +kernel
theorem dX12_down_106 : decode cX12_down 106 = .ok (.aload_n 0, 1) := by decide +kernel
theorem dX12_down_107 : decode cX12_down 107 = .ok (.getfield 281, 3) := by decide +kernel
theorem dX12_down_110 : decode cX12_down 110 = .ok (.if_icmp .le 12, 3) := by decide +kernel
theorem dX12_down_113 : decode cX12_down 113 = .ok (.aload_n 0, 1) := by decide +kernel
theorem dX12_down_114 : decode cX12_down 114 = .ok (.getfield 151, 3) := by decide +kernel
theorem dX12_down_117 : decode cX12_down 117 = .ok (.iload_n 1, 1) := by decide +kernel
theorem dX12_down_118 : decode cX12_down 118 = .ok (.iaload, 1) := by decide +kernel
theorem dX12_down_119 : decode cX12_down 119 = .ok (.goto 7, 3) := by decide +kernel
theorem dX12_down_122 : decode cX12_down 122 = .ok (.aload_n 0, 1) := by decide +kernel
theorem dX12_down_123 : decode cX12_down 123 = .ok (.getfield 281, 3) := by decide +kernel
theorem dX12_down_126 : decode cX12_down 126 = .ok (.istore 5, 2) := by decide +kernel
theorem dX12_down_128 : decode cX12_down 128 = .ok (.aload_n 0, 1) := by decide +kernel
theorem dX12_down_129 : decode cX12_down 129 = .ok (.getfield 151, 3) := by decide +kernel
theorem dX12_down_132 : decode cX12_down 132 = .ok (.iload_n 1, 1) := by decide +kernel
theorem dX12_down_133 : decode cX12_down 133 = .ok (.iload 5, 2) := by decide +kernel
theorem dX12_down_135 : decode cX12_down 135 = .ok (.iload_n 3, 1) := by decide +kernel
theorem dX12_down_136 : decode cX12_down 136 = .ok (.iadd, 1) := by decide +kernel
theorem dX12_down_137 : decode cX12_down 137 = .ok (.iastore, 1) := by decide +kernel
theorem dX12_down_138 : decode cX12_down 138 = .ok (.aload_n 0, 1) := by decide +kernel
theorem dX12_down_139 : decode cX12_down 139 = .ok (.getfield 145, 3) := by decide +kernel
theorem dX12_down_142 : decode cX12_down 142 = .ok (.aload_n 0, 1) := by decide +kernel
theorem dX12_down_143 : decode cX12_down 143 = .ok (.getfield 428, 3) := by decide +kernel
theorem dX12_down_146 : decode cX12_down 146 = .ok (.iload_n 2, 1) := by decide +kernel
theorem dX12_down_147 : decode cX12_down 147 = .ok (.iastore, 1) := by decide +kernel
theorem dX12_down_148 : decode cX12_down 148 = .ok (.aload_n 0, 1) := by decide +kernel
theorem dX12_down_149 : decode cX12_down 149 = .ok (.getfield 148, 3) := by decide +kernel
theorem dX12_down_152 : decode cX12_down 152 = .ok (.aload_n 0, 1) := by decide +kernel
theorem dX12_down_153 : decode cX12_down 153 = .ok (.getfield 428, 3) := by decide +kernel
theorem dX12_down_156 : decode cX12_down 156 = .ok (.iload 5, 2) := by decide +kernel
theorem dX12_down_158 : decode cX12_down 158 = .ok (.iload_n 3, 1) := by decide +kernel
theorem dX12_down_159 : decode cX12_down 159 = .ok (.iadd, 1) := by decide +kernel
theorem dX12_down_160 : decode cX12_down 160 = .ok (.iastore, 1) := by decide +kernel
theorem dX12_down_161 : decode cX12_down 161 = .ok (.aload_n 0, 1) := by decide +kernel
theorem dX12_down_162 : decode cX12_down 162 = .ok (.dup, 1) := by decide +kernel
theorem dX12_down_163 : decode cX12_down 163 = .ok (.getfield 428, 3) := by decide +kernel
theorem dX12_down_166 : decode cX12_down 166 = .ok (.iconst 1, 1) := by decide +kernel
theorem dX12_down_167 : decode cX12_down 167 = .ok (.iadd, 1) := by decide +kernel
theorem dX12_down_168 : decode cX12_down 168 = .ok (.putfield 428, 3) := by decide +kernel
theorem dX12_down_171 : decode cX12_down 171 = .ok (.iload 5, 2) := by decide +kernel
theorem dX12_down_173 : decode cX12_down 173 = .ok (.iload_n 3, 1) := by decide +kernel
theorem dX12_down_174 : decode cX12_down 174 = .ok (.iadd, 1) := by decide +kernel
theorem dX12_down_175 : decode cX12_down 175 = .ok (.ireturn, 1) := by decide +kernel
theorem dX12_comeDown_0 : decode cX12_comeDown 0 = .ok (.iconst 0, 1) := by decide +kernel
theorem dX12_comeDown_1 : decode cX12_comeDown 1 = .ok (.istore_n 1, 1) := by decide +kernel
theorem dX12_comeDown_2 : decode cX12_comeDown 2 = .ok (.iconst 0, 1) := by decide +kernel
theorem dX12_comeDown_3 : decode cX12_comeDown 3 = .ok (.istore_n 2, 1) := by decide +kernel
theorem dX12_comeDown_4 : decode cX12_comeDown 4 = .ok (.iload_n 2, 1) := by decide +kernel
theorem dX12_comeDown_5 : decode cX12_comeDown 5 = .ok (.aload_n 0, 1) := by decide +kernel
theorem dX12_comeDown_6 : decode cX12_comeDown 6 = .ok (.getfield 428, 3) := by decide +kernel
theorem dX12_comeDown_9 : decode cX12_comeDown 9 = .ok (.if_icmp .ge 103, 3) := by decide +kernel
theorem dX12_comeDown_12 : decode cX12_comeDown 12 = .ok (.aload_n 0, 1) := by decide +kernel
theorem dX12_comeDown_13 : decode cX12_comeDown 13 = .ok (.getfield 148, 3) := by decide +kernel
theorem dX12_comeDown_16 : decode cX12_comeDown 16 = .ok (.iload_n 2, 1) := by decide +kernel
theorem dX12_comeDown_17 : decode cX12_comeDown 17 = .ok (.iaload, 1) := by decide +kernel
theorem dX12_comeDown_18 : decode cX12_comeDown 18 = .ok (.aload_n 0, 1) := by decide +kernel
theorem dX12_comeDown_19 : decode cX12_comeDown 19 = .ok (.getfield 281, 3) := by decide +kernel
theorem dX12_comeDown_22 : decode cX12_comeDown 22 = .ok (.if_icmp .ne 57, 3) := by decide +kernel
theorem dX12_comeDown_25 : decode cX12_comeDown 25 = .ok (.aload_n 0, 1) := by decide +kernel
theorem dX12_comeDown_26 : decode cX12_comeDown 26 = .ok (.getfield 145, 3) := by decide +kernel
theorem dX12_comeDown_29 : decode cX12_comeDown 29 = .ok (.iload_n 2, 1) := by decide +kernel
theorem dX12_comeDown_30 : decode cX12_comeDown 30 = .ok (.iaload, 1) := by decide +kernel
theorem dX12_comeDown_31 : decode cX12_comeDown 31 = .ok (.bipush 10, 2) := by decide +kernel
theorem dX12_comeDown_33 : decode cX12_comeDown 33 = .ok (.irem, 1) := by decide +kernel
theorem dX12_comeDown_34 : decode cX12_comeDown 34 = .ok (.ifCond .ne 24, 3) := by decide +kernel
theorem dX12_comeDown_37 : decode cX12_comeDown 37 = .ok (.aload_n 0, 1) := by decide +kernel
theorem dX12_comeDown_38 : decode cX12_comeDown 38 = .ok (.dup, 1) := by decide +kernel
theorem dX12_comeDown_39 : decode cX12_comeDown 39 = .ok (.getfield 397, 3) := by decide +kernel
theorem dX12_comeDown_42 : decode cX12_comeDown 42 = .ok (.aload_n 0, 1) := by decide +kernel
theorem dX12_comeDown_43 : decode cX12_comeDown 43 = .ok (.getfield 145, 3) := by decide +kernel
theorem dX12_comeDown_46 : decode cX12_comeDown 46 = .ok (.iload_n 2, 1) := by decide +kernel
theorem dX12_comeDown_47 : decode cX12_comeDown 47 = .ok (.iaload, 1) := by decide +kernel
theorem dX12_comeDown_48 : decode cX12_comeDown 48 = .ok (.bipush 10, 2) := by decide +kernel
theorem dX12_comeDown_50 : decode cX12_comeDown 50 = .ok (.idiv, 1) := by decide +kernel
theorem dX12_comeDown_51 : decode cX12_comeDown 51 = .ok (.iadd, 1) := by decide +kernel
theorem dX12_comeDown_52 : decode cX12_comeDown 52 = .ok (.putfield 397, 3) := by decide +kernel
theorem dX12_comeDown_55 : decode cX12_comeDown 55 = .ok (.goto 51, 3) := by decide +kernel
theorem dX12_comeDown_58 : decode cX12_comeDown 58 = .ok (.aload_n 0, 1) := by decide +kernel
theorem dX12_comeDown_59 : decode cX12_comeDown 59 = .ok (.getfield 154, 3) := by decide +kernel
theorem dX12_comeDown_62 : decode cX12_comeDown 62 = .ok (.aload_n 0, 1) := by decide +kernel
theorem dX12_comeDown_63 : decode cX12_comeDown 63 = .ok (.getfield 145, 3) := by decide +kernel
theorem dX12_comeDown_66 : decode cX12_comeDown 66 = .ok (.iload_n 2, 1) := by decide +kernel
theorem dX12_comeDown_67 : decode cX12_comeDown 67 = .ok (.iaload, 1) := by decide +kernel
theorem dX12_comeDown_68 : decode cX12_comeDown 68 = .ok (.bipush 10, 2) := by decide +kernel
theorem dX12_comeDown_70 : decode cX12_comeDown 70 = .ok (.irem, 1) := by decide +kernel
theorem dX12_comeDown_71 : decode cX12_comeDown 71 = .ok (.dup2, 1) := by decide +kernel
theorem dX12_comeDown_72 : decode cX12_comeDown 72 = .ok (.iaload, 1) := by decide +kernel
theorem dX12_comeDown_73 : decode cX12_comeDown 73 = .ok (.iconst 1, 1) := by decide +kernel
theorem dX12_comeDown_74 : decode cX12_comeDown 74 = .ok (.iadd, 1) := by decide +kernel
theorem dX12_comeDown_75 : decode cX12_comeDown 75 = .ok (.iastore, 1) := by decide +kernel
theorem dX12_comeDown_76 : decode cX12_comeDown 76 = .ok (.goto 30, 3) := by decide +kernel
theorem dX12_comeDown_79 : decode cX12_comeDown 79 = .ok (.aload_n 0, 1) := by decide +kernel
theorem dX12_comeDown_80 : decode cX12_comeDown 80 = .ok (.getfield 145, 3) := by decide +kernel
theorem dX12_comeDown_83 : decode cX12_comeDown 83 = .ok (.iload_n 1, 1) := by decide +kernel
theorem dX12_comeDown_84 : decode cX12_comeDown 84 = .ok (.aload_n 0, 1) := by decide +kernel
theorem dX12_comeDown_85 : decode cX12_comeDown 85 = .ok (.getfield 145, 3) := by decide +kernel
theorem dX12_comeDown_88 : decode cX12_comeDown 88 = .ok (.iload_n 2, 1) := by decide +kernel
theorem dX12_comeDown_89 : decode cX12_comeDown 89 = .ok (.iaload, 1) := by decide +kernel
theorem dX12_comeDown_90 : decode cX12_comeDown 90 = .ok (.iastore, 1) := by decide +kernel
theorem dX12_comeDown_91 : decode cX12_comeDown 91 = .ok (.aload_n 0, 1) := by decide +kernel
theorem dX12_comeDown_92 : decode cX12_comeDown 92 = .ok (.getfield 148, 3) := by decide +kernel
theorem dX12_comeDown_95 : decode cX12_comeDown 95 = .ok (.iload_n 1, 1) := by decide +kernel
theorem dX12_comeDown_96 : decode cX12_comeDown 96 = .ok (.aload_n 0, 1) := by decide +kernel
theorem dX12_comeDown_97 : decode cX12_comeDown 97 = .ok (.getfield 148, 3) := by decide +kernel
theorem dX12_comeDown_100 : decode cX12_comeDown 100 = .ok (.iload_n 2, 1) := by decide +kernel
theorem dX12_comeDown_101 : decode cX12_comeDown 101 = .ok (.iaload, 1) := by decide +kernel
theorem dX12_comeDown_102 : decode cX12_comeDown 102 = .ok (.iastore, 1) := by decide +kernel
theorem dX12_comeDown_103 : decode cX12_comeDown 103 = .ok (.iinc 1 1, 3) := by decide +kernel
theorem dX12_comeDown_106 : decode cX12_comeDown 106 = .ok (.iinc 2 1, 3) := by decide +kernel
theorem dX12_comeDown_109 : decode cX12_comeDown 109 = .ok (.goto (-105), 3) := by decide +kernel
theorem dX12_comeDown_112 : decode cX12_comeDown 112 = .ok (.aload_n 0, 1) := by decide +kernel
theorem dX12_comeDown_113 : decode cX12_comeDown 113 = .ok (.iload_n 1, 1) := by decide +kernel
theorem dX12_comeDown_114 : decode cX12_comeDown 114 = .ok (.putfield 428, 3) := by decide +kernel
theorem dX12_comeDown_117 : decode cX12_comeDown 117 = .ok (.return_, 1) := by decide +kernel
theorem dX12_below_0 : decode cX12_below 0 = .ok (.iload_n 1, 1) := by decide +kernel
theorem dX12_below_1 : decode cX12_below 1 = .ok (.iconst 0, 1) := by decide +kernel
theorem dX12_below_2 : decode cX12_below 2 = .ok (.bipush 9, 2) := by decide +kernel
theorem dX12_below_4 : decode cX12_below 4 = .ok (.invokestatic 230, 3) := by decide +kernel
theorem dX12_below_7 : decode cX12_below 7 = .ok (.ifCond .ne 7, 3) := by decide +kernel
theorem dX12_below_10 : decode cX12_below 10 = .ok (.iconst (-1), 1) := by decide +kernel
theorem dX12_below_11 : decode cX12_below 11 = .ok (.goto 20, 3) := by decide +kernel
theorem dX12_below_14 : decode cX12_below 14 = .ok (.iload_n 1, 1) := by decide +kernel
theorem dX12_below_15 : decode cX12_below 15 = .ok (.ifCond .ne 10, 3) := by decide +kernel
theorem dX12_below_18 : decode cX12_below 18 = .ok (.aload_n 0, 1) := by decide +kernel
theorem dX12_below_19 : decode cX12_below 19 = .ok (.getfield 397, 3) := by decide +kernel
theorem dX12_below_22 : decode cX12_below 22 = .ok (.goto 9, 3) := by decide +kernel
theorem dX12_below_25 : decode cX12_below 25 = .ok (.aload_n 0, 1) := by decide +kernel
theorem dX12_below_26 : decode cX12_below 26 = .ok (.getfield 154, 3) := by decide +kernel
theorem dX12_below_29 : decode cX12_below 29 = .ok (.iload_n 1, 1) := by decide +kernel
theorem dX12_below_30 : decode cX12_below 30 = .ok (.iaload, 1) := by decide +kernel
theorem dX12_below_31 : decode cX12_below 31 = .ok (.ireturn, 1) := by decide +kernel
theorem dX12_need_0 : decode cX12_need 0 = .ok (.iload_n 1, 1) := by decide +kernel
theorem dX12_need_1 : decode cX12_need 1 = .ok (.ifCond .lt 33, 3) := by decide +kernel
theorem dX12_need_4 : decode cX12_need 4 = .ok (.iload_n 1, 1) := by decide +kernel
theorem dX12_need_5 : decode cX12_need 5 = .ok (.bipush 100, 2) := by decide +kernel
theorem dX12_need_7 : decode cX12_need 7 = .ok (.idiv, 1) := by decide +kernel
theorem dX12_need_8 : decode cX12_need 8 = .ok (.iconst 1, 1) := by decide +kernel
theorem dX12_need_9 : decode cX12_need 9 = .ok (.bipush 9, 2) := by decide +kernel
theorem dX12_need_11 : decode cX12_need 11 = .ok (.invokestatic 230, 3) := by decide +kernel
theorem dX12_need_14 : decode cX12_need 14 = .ok (.ifCond .eq 20, 3) := by decide +kernel
theorem dX12_need_17 : decode cX12_need 17 = .ok (.iload_n 1, 1) := by decide +kernel
theorem dX12_need_18 : decode cX12_need 18 = .ok (.bipush 100, 2) := by decide +kernel
theorem dX12_need_20 : decode cX12_need 20 = .ok (.irem, 1) := by decide +kernel
theorem dX12_need_21 : decode cX12_need 21 = .ok (.ifCond .eq 13, 3) := by decide +kernel
theorem dX12_need_24 : decode cX12_need 24 = .ok (.iload_n 2, 1) := by decide +kernel
theorem dX12_need_25 : decode cX12_need 25 = .ok (.iconst 0, 1) := by decide +kernel
theorem dX12_need_26 : decode cX12_need 26 = .ok (.bipush 99, 2) := by decide +kernel
theorem dX12_need_28 : decode cX12_need 28 = .ok (.invokestatic 230, 3) := by decide +kernel
theorem dX12_need_31 : decode cX12_need 31 = .ok (.ifCond .ne 5, 3) := by decide +kernel
theorem dX12_need_34 : decode cX12_need 34 = .ok (.iconst (-1), 1) := by decide +kernel
theorem dX12_need_35 : decode cX12_need 35 = .ok (.ireturn, 1) := by decide +kernel
theorem dX12_need_36 : decode cX12_need 36 = .ok (.aload_n 0, 1) := by decide +kernel
theorem dX12_need_37 : decode cX12_need 37 = .ok (.getfield 431, 3) := by decide +kernel
theorem dX12_need_40 : decode cX12_need 40 = .ok (.bipush 10, 2) := by decide +kernel
theorem dX12_need_42 : decode cX12_need 42 = .ok (.if_icmp .ne 6, 3) := by decide +kernel
theorem dX12_need_45 : decode cX12_need 45 = .ok (.bipush (-3), 2) := by decide +kernel
theorem dX12_need_47 : decode cX12_need 47 = .ok (.ireturn, 1) := by decide +kernel
theorem dX12_need_48 : decode cX12_need 48 = .ok (.aload_n 0, 1) := by decide +kernel
theorem dX12_need_49 : decode cX12_need 49 = .ok (.getfield 157, 3) := by decide +kernel
theorem dX12_need_52 : decode cX12_need 52 = .ok (.aload_n 0, 1) := by decide +kernel
theorem dX12_need_53 : decode cX12_need 53 = .ok (.getfield 431, 3) := by decide +kernel
theorem dX12_need_56 : decode cX12_need 56 = .ok (.iload_n 1, 1) := by decide +kernel
theorem dX12_need_57 : decode cX12_need 57 = .ok (.bipush 100, 2) := by decide +kernel
theorem dX12_need_59 : decode cX12_need 59 = .ok (.idiv, 1) := by decide +kernel
theorem dX12_need_60 : decode cX12_need 60 = .ok (.iastore, 1) := by decide +kernel
theorem dX12_need_61 : decode cX12_need 61 = .ok (.aload_n 0, 1) := by decide +kernel
theorem dX12_need_62 : decode cX12_need 62 = .ok (.getfield 160, 3) := by decide +kernel
theorem dX12_need_65 : decode cX12_need 65 = .ok (.aload_n 0, 1) := by decide +kernel
theorem dX12_need_66 : decode cX12_need 66 = .ok (.getfield 431, 3) := by decide +kernel
theorem dX12_need_69 : decode cX12_need 69 = .ok (.iload_n 1, 1) := by decide +kernel
theorem dX12_need_70 : decode cX12_need 70 = .ok (.bipush 100, 2) := by decide +kernel
theorem dX12_need_72 : decode cX12_need 72 = .ok (.irem, 1) := by decide +kernel
theorem dX12_need_73 : decode cX12_need 73 = .ok (.iastore, 1) := by decide +kernel
theorem dX12_need_74 : decode cX12_need 74 = .ok (.aload_n 0, 1) := by decide +kernel
theorem dX12_need_75 : decode cX12_need 75 = .ok (.getfield 163, 3) := by decide +kernel
theorem dX12_need_78 : decode cX12_need 78 = .ok (.aload_n 0, 1) := by decide +kernel
theorem dX12_need_79 : decode cX12_need 79 = .ok (.getfield 431, 3) := by decide +kernel
theorem dX12_need_82 : decode cX12_need 82 = .ok (.iload_n 2, 1) := by decide +kernel
theorem dX12_need_83 : decode cX12_need 83 = .ok (.iastore, 1) := by decide +kernel
theorem dX12_need_84 : decode cX12_need 84 = .ok (.aload_n 0, 1) := by decide +kernel
theorem dX12_need_85 : decode cX12_need 85 = .ok (.dup, 1) := by decide +kernel
theorem dX12_need_86 : decode cX12_need 86 = .ok (.getfield 431, 3) := by decide +kernel
theorem dX12_need_89 : decode cX12_need 89 = .ok (.iconst 1, 1) := by decide +kernel
theorem dX12_need_90 : decode cX12_need 90 = .ok (.iadd, 1) := by decide +kernel
theorem dX12_need_91 : decode cX12_need 91 = .ok (.putfield 431, 3) := by decide +kernel
theorem dX12_need_94 : decode cX12_need 94 = .ok (.aload_n 0, 1) := by decide +kernel
theorem dX12_need_95 : decode cX12_need 95 = .ok (.getfield 431, 3) := by decide +kernel
theorem dX12_need_98 : decode cX12_need 98 = .ok (.ireturn, 1) := by decide +kernel
theorem dX12_costNext_0 : decode cX12_costNext 0 = .ok (.iconst 0, 1) := by decide +kernel
theorem dX12_costNext_1 : decode cX12_costNext 1 = .ok (.istore_n 3, 1) := by decide +kernel
theorem dX12_costNext_2 : decode cX12_costNext 2 = .ok (.iconst 0, 1) := by decide +kernel
theorem dX12_costNext_3 : decode cX12_costNext 3 = .ok (.istore 4, 2) := by decide +kernel
theorem dX12_costNext_5 : decode cX12_costNext 5 = .ok (.iload 4, 2) := by decide +kernel
theorem dX12_costNext_7 : decode cX12_costNext 7 = .ok (.aload_n 0, 1) := by decide +kernel
theorem dX12_costNext_8 : decode cX12_costNext 8 = .ok (.getfield 431, 3) := by decide +kernel
theorem dX12_costNext_11 : decode cX12_costNext 11 = .ok (.if_icmp .ge 32, 3) := by decide +kernel
theorem dX12_costNext_14 : decode cX12_costNext 14 = .ok (.iload_n 3, 1) := by decide +kernel
theorem dX12_costNext_15 : decode cX12_costNext 15 = .ok (.iload_n 2, 1) := by decide +kernel
theorem dX12_costNext_16 : decode cX12_costNext 16 = .ok (.iload 4, 2) := by decide +kernel
theorem dX12_costNext_18 : decode cX12_costNext 18 = .ok (.ishr, 1) := by decide +kernel
theorem dX12_costNext_19 : decode cX12_costNext 19 = .ok (.iconst 1, 1) := by decide +kernel
theorem dX12_costNext_20 : decode cX12_costNext 20 = .ok (.iand, 1) := by decide +kernel
theorem dX12_costNext_21 : decode cX12_costNext 21 = .ok (.ifCond .ne 13, 3) := by decide +kernel
theorem dX12_costNext_24 : decode cX12_costNext 24 = .ok (.aload_n 0, 1) := by decide +kernel
theorem dX12_costNext_25 : decode cX12_costNext 25 = .ok (.getfield 157, 3) := by decide +kernel
theorem dX12_costNext_28 : decode cX12_costNext 28 = .ok (.iload 4, 2) := by decide +kernel
theorem dX12_costNext_30 : decode cX12_costNext 30 = .ok (.iaload, 1) := by decide +kernel
theorem dX12_costNext_31 : decode cX12_costNext 31 = .ok (.goto 4, 3) := by decide +kernel
theorem dX12_costNext_34 : decode cX12_costNext 34 = .ok (.iconst 0, 1) := by decide +kernel
theorem dX12_costNext_35 : decode cX12_costNext 35 = .ok (.iadd, 1) := by decide +kernel
theorem dX12_costNext_36 : decode cX12_costNext 36 = .ok (.istore_n 3, 1) := by decide +kernel
theorem dX12_costNext_37 : decode cX12_costNext 37 = .ok (.iinc 4 1, 3) := by decide +kernel
theorem dX12_costNext_40 : decode cX12_costNext 40 = .ok (.goto (-35), 3) := by decide +kernel
theorem dX12_costNext_43 : decode cX12_costNext 43 = .ok (.iload_n 3, 1) := by decide +kernel
theorem dX12_costNext_44 : decode cX12_costNext 44 = .ok (.aload_n 0, 1) := by decide +kernel
theorem dX12_costNext_45 : decode cX12_costNext 45 = .ok (.getfield 157, 3) := by decide +kernel
theorem dX12_costNext_48 : decode cX12_costNext 48 = .ok (.iload_n 1, 1) := by decide +kernel
theorem dX12_costNext_49 : decode cX12_costNext 49 = .ok (.iaload, 1) := by decide +kernel
theorem dX12_costNext_50 : decode cX12_costNext 50 = .ok (.iadd, 1) := by decide +kernel
theorem dX12_costNext_51 : decode cX12_costNext 51 = .ok (.aload_n 0, 1) := by decide +kernel
theorem dX12_costNext_52 : decode cX12_costNext 52 = .ok (.getfield 163, 3) := by decide +kernel
theorem dX12_costNext_55 : decode cX12_costNext 55 = .ok (.iload_n 1, 1) := by decide +kernel
theorem dX12_costNext_56 : decode cX12_costNext 56 = .ok (.iaload, 1) := by decide +kernel
theorem dX12_costNext_57 : decode cX12_costNext 57 = .ok (.isub, 1) := by decide +kernel
theorem dX12_costNext_58 : decode cX12_costNext 58 = .ok (.istore 4, 2) := by decide +kernel
theorem dX12_costNext_60 : decode cX12_costNext 60 = .ok (.iload 4, 2) := by decide +kernel
theorem dX12_costNext_62 : decode cX12_costNext 62 = .ok (.ifCond .le 15, 3) := by decide +kernel
theorem dX12_costNext_65 : decode cX12_costNext 65 = .ok (.iload 4, 2) := by decide +kernel
theorem dX12_costNext_67 : decode cX12_costNext 67 = .ok (.aload_n 0, 1) := by decide +kernel
theorem dX12_costNext_68 : decode cX12_costNext 68 = .ok (.getfield 160, 3) := by decide +kernel
theorem dX12_costNext_71 : decode cX12_costNext 71 = .ok (.iload_n 1, 1) := by decide +kernel
theorem dX12_costNext_72 : decode cX12_costNext 72 = .ok (.iaload, 1) := by decide +kernel
theorem dX12_costNext_73 : decode cX12_costNext 73 = .ok (.imul, 1) := by decide +kernel
theorem dX12_costNext_74 : decode cX12_costNext 74 = .ok (.goto 4, 3) := by decide +kernel
theorem dX12_costNext_77 : decode cX12_costNext 77 = .ok (.iconst 0, 1) := by decide +kernel
theorem dX12_costNext_78 : decode cX12_costNext 78 = .ok (.ireturn, 1) := by decide +kernel
theorem dX12_order_0 : decode cX12_order 0 = .ok (.aload_n 0, 1) := by decide +kernel
theorem dX12_order_1 : decode cX12_order 1 = .ok (.getfield 431, 3) := by decide +kernel
theorem dX12_order_4 : decode cX12_order 4 = .ok (.ifCond .ne 5, 3) := by decide +kernel
theorem dX12_order_7 : decode cX12_order 7 = .ok (.iconst (-1), 1) := by decide +kernel
theorem dX12_order_8 : decode cX12_order 8 = .ok (.ireturn, 1) := by decide +kernel
theorem dX12_order_9 : decode cX12_order 9 = .ok (.iconst 1, 1) := by decide +kernel
theorem dX12_order_10 : decode cX12_order 10 = .ok (.istore_n 1, 1) := by decide +kernel
theorem dX12_order_11 : decode cX12_order 11 = .ok (.iload_n 1, 1) := by decide +kernel
theorem dX12_order_12 : decode cX12_order 12 = .ok (.iconst 1, 1) := by decide +kernel
theorem dX12_order_13 : decode cX12_order 13 = .ok (.aload_n 0, 1) := by decide +kernel
theorem dX12_order_14 : decode cX12_order 14 = .ok (.getfield 431, 3) := by decide +kernel
theorem dX12_order_17 : decode cX12_order 17 = .ok (.ishl, 1) := by decide +kernel
theorem dX12_order_18 : decode cX12_order 18 = .ok (.if_icmp .ge 82, 3) := by decide +kernel
theorem dX12_order_21 : decode cX12_order 21 = .ok (.aload_n 0, 1) := by decide +kernel
theorem dX12_order_22 : decode cX12_order 22 = .ok (.getfield 166, 3) := by decide +kernel
theorem dX12_order_25 : decode cX12_order 25 = .ok (.iload_n 1, 1) := by decide +kernel
theorem dX12_order_26 : decode cX12_order 26 = .ok (.ldc_w 436, 3) := by decide +kernel
theorem dX12_order_29 : decode cX12_order 29 = .ok (.iastore, 1) := by decide +kernel
theorem dX12_order_30 : decode cX12_order 30 = .ok (.iconst 0, 1) := by decide +kernel
theorem dX12_order_31 : decode cX12_order 31 = .ok (.istore_n 2, 1) := by decide +kernel
theorem dX12_order_32 : decode cX12_order 32 = .ok (.iload_n 2, 1) := by decide +kernel
theorem dX12_order_33 : decode cX12_order 33 = .ok (.aload_n 0, 1) := by decide +kernel
theorem dX12_order_34 : decode cX12_order 34 = .ok (.getfield 431, 3) := by decide +kernel
theorem dX12_order_37 : decode cX12_order 37 = .ok (.if_icmp .ge 57, 3) := by decide +kernel
theorem dX12_order_40 : decode cX12_order 40 = .ok (.iload_n 1, 1) := by decide +kernel
theorem dX12_order_41 : decode cX12_order 41 = .ok (.iload_n 2, 1) := by decide +kernel
theorem dX12_order_42 : decode cX12_order 42 = .ok (.ishr, 1) := by decide +kernel
theorem dX12_order_43 : decode cX12_order 43 = .ok (.iconst 1, 1) := by decide +kernel
theorem dX12_order_44 : decode cX12_order 44 = .ok (.iand, 1) := by decide +kernel
theorem dX12_order_45 : decode cX12_order 45 = .ok (.ifCond .ne 6, 3) := by decide +kernel
theorem dX12_order_48 : decode cX12_order 48 = .ok (.goto 40, 3) := by decide +kernel
theorem dX12_order_51 : decode cX12_order 51 = .ok (.aload_n 0, 1) := by decide +kernel
theorem dX12_order_52 : decode cX12_order 52 = .ok (.iload_n 2, 1) := by decide +kernel
theorem dX12_order_53 : decode cX12_order 53 = .ok (.iload_n 1, 1) := by decide +kernel
theorem dX12_order_54 : decode cX12_order 54 = .ok (.invokevirtual 437, 3) := by decide +kernel
theorem dX12_order_57 : decode cX12_order 57 = .ok (.aload_n 0, 1) := by decide +kernel
theorem dX12_order_58 : decode cX12_order 58 = .ok (.getfield 166, 3) := by decide +kernel
theorem dX12_order_61 : decode cX12_order 61 = .ok (.iload_n 1, 1) := by decide +kernel
theorem dX12_order_62 : decode cX12_order 62 = .ok (.iconst 1, 1) := by decide +kernel
theorem dX12_order_63 : decode cX12_order 63 = .ok (.iload_n 2, 1) := by decide +kernel
theorem dX12_order_64 : decode cX12_order 64 = .ok (.ishl, 1) := by decide +kernel
theorem dX12_order_65 : decode cX12_order 65 = .ok (.iconst (-1), 1) := by decide +kernel
theorem dX12_order_66 : decode cX12_order 66 = .ok (.ixor, 1) := by decide +kernel
theorem dX12_order_67 : decode cX12_order 67 = .ok (.iand, 1) := by decide +kernel
theorem dX12_order_68 : decode cX12_order 68 = .ok (.iaload, 1) := by decide +kernel
theorem dX12_order_69 : decode cX12_order 69 = .ok (.iadd, 1) := by decide +kernel
theorem dX12_order_70 : decode cX12_order 70 = .ok (.istore_n 3, 1) := by decide +kernel
theorem dX12_order_71 : decode cX12_order 71 = .ok (.iload_n 3, 1) := by decide +kernel
theorem dX12_order_72 : decode cX12_order 72 = .ok (.aload_n 0, 1) := by decide +kernel
theorem dX12_order_73 : decode cX12_order 73 = .ok (.getfield 166, 3) := by decide +kernel
theorem dX12_order_76 : decode cX12_order 76 = .ok (.iload_n 1, 1) := by decide +kernel
theorem dX12_order_77 : decode cX12_order 77 = .ok (.iaload, 1) := by decide +kernel
theorem dX12_order_78 : decode cX12_order 78 = .ok (.if_icmp .ge 10, 3) := by decide +kernel
theorem dX12_order_81 : decode cX12_order 81 = .ok (.aload_n 0, 1) := by decide +kernel
theorem dX12_order_82 : decode cX12_order 82 = .ok (.getfield 166, 3) := by decide +kernel
theorem dX12_order_85 : decode cX12_order 85 = .ok (.iload_n 1, 1) := by decide +kernel
theorem dX12_order_86 : decode cX12_order 86 = .ok (.iload_n 3, 1) := by decide +kernel
theorem dX12_order_87 : decode cX12_order 87 = .ok (.iastore, 1) := by decide +kernel
theorem dX12_order_88 : decode cX12_order 88 = .ok (.iinc 2 1, 3) := by decide +kernel
theorem dX12_order_91 : decode cX12_order 91 = .ok (.goto (-59), 3) := by decide +kernel
theorem dX12_order_94 : decode cX12_order 94 = .ok (.iinc 1 1, 3) := by decide +kernel
theorem dX12_order_97 : decode cX12_order 97 = .ok (.goto (-86), 3) := by decide +kernel
theorem dX12_order_100 : decode cX12_order 100 = .ok (.iconst 1, 1) := by decide +kernel
theorem dX12_order_101 : decode cX12_order 101 = .ok (.aload_n 0, 1) := by decide +kernel
theorem dX12_order_102 : decode cX12_order 102 = .ok (.getfield 431, 3) := by decide +kernel
theorem dX12_order_105 : decode cX12_order 105 = .ok (.ishl, 1) := by decide +kernel
theorem dX12_order_106 : decode cX12_order 106 = .ok (.iconst 1, 1) := by decide +kernel
theorem dX12_order_107 : decode cX12_order 107 = .ok (.isub, 1) := by decide +kernel
theorem dX12_order_108 : decode cX12_order 108 = .ok (.istore_n 1, 1) := by decide +kernel
theorem dX12_order_109 : decode cX12_order 109 = .ok (.aload_n 0, 1) := by decide +kernel
theorem dX12_order_110 : decode cX12_order 110 = .ok (.getfield 166, 3) := by decide +kernel
theorem dX12_order_113 : decode cX12_order 113 = .ok (.iload_n 1, 1) := by decide +kernel
theorem dX12_order_114 : decode cX12_order 114 = .ok (.iaload, 1) := by decide +kernel
theorem dX12_order_115 : decode cX12_order 115 = .ok (.istore_n 2, 1) := by decide +kernel
theorem dX12_order_116 : decode cX12_order 116 = .ok (.iconst 0, 1) := by decide +kernel
theorem dX12_order_117 : decode cX12_order 117 = .ok (.istore_n 3, 1) := by decide +kernel
theorem dX12_order_118 : decode cX12_order 118 = .ok (.iload_n 3, 1) := by decide +kernel
theorem dX12_order_119 : decode cX12_order 119 = .ok (.aload_n 0, 1) := by decide +kernel
theorem dX12_order_120 : decode cX12_order 120 = .ok (.getfield 431, 3) := by decide +kernel
theorem dX12_order_123 : decode cX12_order 123 = .ok (.if_icmp .ge 74, 3) := by decide +kernel
theorem dX12_order_126 : decode cX12_order 126 = .ok (.iconst 0, 1) := by decide +kernel
theorem dX12_order_127 : decode cX12_order 127 = .ok (.istore 4, 2) := by decide +kernel
theorem dX12_order_129 : decode cX12_order 129 = .ok (.iload_n 1, 1) := by decide +kernel
theorem dX12_order_130 : decode cX12_order 130 = .ok (.iload 4, 2) := by decide +kernel
theorem dX12_order_132 : decode cX12_order 132 = .ok (.ishr, 1) := by decide +kernel
theorem dX12_order_133 : decode cX12_order 133 = .ok (.iconst 1, 1) := by decide +kernel
theorem dX12_order_134 : decode cX12_order 134 = .ok (.iand, 1) := by decide +kernel
theorem dX12_order_135 : decode cX12_order 135 = .ok (.ifCond .eq 33, 3) := by decide +kernel
theorem dX12_order_138 : decode cX12_order 138 = .ok (.aload_n 0, 1) := by decide +kernel
theorem dX12_order_139 : decode cX12_order 139 = .ok (.iload 4, 2) := by decide +kernel
theorem dX12_order_141 : decode cX12_order 141 = .ok (.iload_n 1, 1) := by decide +kernel
theorem dX12_order_142 : decode cX12_order 142 = .ok (.invokevirtual 437, 3) := by decide +kernel
theorem dX12_order_145 : decode cX12_order 145 = .ok (.aload_n 0, 1) := by decide +kernel
theorem dX12_order_146 : decode cX12_order 146 = .ok (.getfield 166, 3) := by decide +kernel
theorem dX12_order_149 : decode cX12_order 149 = .ok (.iload_n 1, 1) := by decide +kernel
theorem dX12_order_150 : decode cX12_order 150 = .ok (.iconst 1, 1) := by decide +kernel
theorem dX12_order_151 : decode cX12_order 151 = .ok (.iload 4, 2) := by decide +kernel
theorem dX12_order_153 : decode cX12_order 153 = .ok (.ishl, 1) := by decide +kernel
theorem dX12_order_154 : decode cX12_order 154 = .ok (.iconst (-1), 1) := by decide +kernel
theorem dX12_order_155 : decode cX12_order 155 = .ok (.ixor, 1) := by decide +kernel
theorem dX12_order_156 : decode cX12_order 156 = .ok (.iand, 1) := by decide +kernel
theorem dX12_order_157 : decode cX12_order 157 = .ok (.iaload, 1) := by decide +kernel
theorem dX12_order_158 : decode cX12_order 158 = .ok (.iadd, 1) := by decide +kernel
theorem dX12_order_159 : decode cX12_order 159 = .ok (.aload_n 0, 1) := by decide +kernel
theorem dX12_order_160 : decode cX12_order 160 = .ok (.getfield 166, 3) := by decide +kernel
theorem dX12_order_163 : decode cX12_order 163 = .ok (.iload_n 1, 1) := by decide +kernel
theorem dX12_order_164 : decode cX12_order 164 = .ok (.iaload, 1) := by decide +kernel
theorem dX12_order_165 : decode cX12_order 165 = .ok (.if_icmp .eq 9, 3) := by decide +kernel
theorem dX12_order_168 : decode cX12_order 168 = .ok (.iinc 4 1, 3) := by decide +kernel
theorem dX12_order_171 : decode cX12_order 171 = .ok (.goto (-42), 3) := by decide +kernel
theorem dX12_order_174 : decode cX12_order 174 = .ok (.aload_n 0, 1) := by decide +kernel
theorem dX12_order_175 : decode cX12_order 175 = .ok (.getfield 172, 3) := by decide +kernel
theorem dX12_order_178 : decode cX12_order 178 = .ok (.iload_n 3, 1) := by decide +kernel
theorem dX12_order_179 : decode cX12_order 179 = .ok (.iload 4, 2) := by decide +kernel
theorem dX12_order_181 : decode cX12_order 181 = .ok (.iastore, 1) := by decide +kernel
theorem dX12_order_182 : decode cX12_order 182 = .ok (.iload_n 1, 1) := by decide +kernel
theorem dX12_order_183 : decode cX12_order 183 = .ok (.iconst 1, 1) := by decide +kernel
theorem dX12_order_184 : decode cX12_order 184 = .ok (.iload 4, 2) := by decide +kernel
theorem dX12_order_186 : decode cX12_order 186 = .ok (.ishl, 1) := by decide +kernel
theorem dX12_order_187 : decode cX12_order 187 = .ok (.iconst (-1), 1) := by decide +kernel
theorem dX12_order_188 : decode cX12_order 188 = .ok (.ixor, 1) := by decide +kernel
theorem dX12_order_189 : decode cX12_order 189 = .ok (.iand, 1) := by decide +kernel
theorem dX12_order_190 : decode cX12_order 190 = .ok (.istore_n 1, 1) := by decide +kernel
theorem dX12_order_191 : decode cX12_order 191 = .ok (.iinc 3 1, 3) := by decide +kernel
theorem dX12_order_194 : decode cX12_order 194 = .ok (.goto (-76), 3) := by decide +kernel
theorem dX12_order_197 : decode cX12_order 197 = .ok (.aload_n 0, 1) := by decide +kernel
theorem dX12_order_198 : decode cX12_order 198 = .ok (.aload_n 0, 1) := by decide +kernel
theorem dX12_order_199 : decode cX12_order 199 = .ok (.getfield 431, 3) := by decide +kernel
theorem dX12_order_202 : decode cX12_order 202 = .ok (.putfield 169, 3) := by decide +kernel
theorem dX12_order_205 : decode cX12_order 205 = .ok (.aload_n 0, 1) := by decide +kernel
theorem dX12_order_206 : decode cX12_order 206 = .ok (.iconst 0, 1) := by decide +kernel
theorem dX12_order_207 : decode cX12_order 207 = .ok (.putfield 431, 3) := by decide +kernel
theorem dX12_order_210 : decode cX12_order 210 = .ok (.iload_n 2, 1) := by decide +kernel
theorem dX12_order_211 : decode cX12_order 211 = .ok (.ireturn, 1) := by decide +kernel
theorem dX12_ordered_0 : decode cX12_ordered 0 = .ok (.iload_n 1, 1) := by decide +kernel
theorem dX12_ordered_1 : decode cX12_ordered 1 = .ok (.iconst 0, 1) := by decide +kernel
theorem dX12_ordered_2 : decode cX12_ordered 2 = .ok (.aload_n 0, 1) := by decide +kernel
theorem dX12_ordered_3 : decode cX12_ordered 3 = .ok (.getfield 169, 3) := by decide +kernel
theorem dX12_ordered_6 : decode cX12_ordered 6 = .ok (.iconst 1, 1) := by decide +kernel
theorem dX12_ordered_7 : decode cX12_ordered 7 = .ok (.isub, 1) := by decide +kernel
theorem dX12_ordered_8 : decode cX12_ordered 8 = .ok (.invokestatic 230, 3) := by decide +kernel
theorem dX12_ordered_11 : decode cX12_ordered 11 = .ok (.ifCond .eq 12, 3) := by decide +kernel
theorem dX12_ordered_14 : decode cX12_ordered 14 = .ok (.aload_n 0, 1) := by decide +kernel
theorem dX12_ordered_15 : decode cX12_ordered 15 = .ok (.getfield 172, 3) := by decide +kernel
theorem dX12_ordered_18 : decode cX12_ordered 18 = .ok (.iload_n 1, 1) := by decide +kernel
theorem dX12_ordered_19 : decode cX12_ordered 19 = .ok (.iaload, 1) := by decide +kernel
theorem dX12_ordered_20 : decode cX12_ordered 20 = .ok (.goto 4, 3) := by decide +kernel
theorem dX12_ordered_23 : decode cX12_ordered 23 = .ok (.iconst (-1), 1) := by decide +kernel
theorem dX12_ordered_24 : decode cX12_ordered 24 = .ok (.ireturn, 1) := by decide +kernel
theorem dX12_watch_0 : decode cX12_watch 0 = .ok (.iload_n 1, 1) := by decide +kernel
theorem dX12_watch_1 : decode cX12_watch 1 = .ok (.iconst 1, 1) := by decide +kernel
theorem dX12_watch_2 : decode cX12_watch 2 = .ok (.iconst 3, 1) := by decide +kernel
theorem dX12_watch_3 : decode cX12_watch 3 = .ok (.invokestatic 230, 3) := by decide +kernel
theorem dX12_watch_6 : decode cX12_watch 6 = .ok (.ifCond .eq 13, 3) := by decide +kernel
theorem dX12_watch_9 : decode cX12_watch 9 = .ok (.iload_n 2, 1) := by decide +kernel
theorem dX12_watch_10 : decode cX12_watch 10 = .ok (.iconst 0, 1) := by decide +kernel
theorem dX12_watch_11 : decode cX12_watch 11 = .ok (.bipush 9, 2) := by decide +kernel
theorem dX12_watch_13 : decode cX12_watch 13 = .ok (.invokestatic 230, 3) := by decide +kernel
theorem dX12_watch_16 : decode cX12_watch 16 = .ok (.ifCond .ne 5, 3) := by decide +kernel
theorem dX12_watch_19 : decode cX12_watch 19 = .ok (.iconst (-1), 1) := by decide +kernel
theorem dX12_watch_20 : decode cX12_watch 20 = .ok (.ireturn, 1) := by decide +kernel
theorem dX12_watch_21 : decode cX12_watch 21 = .ok (.iconst 0, 1) := by decide +kernel
theorem dX12_watch_22 : decode cX12_watch 22 = .ok (.istore_n 3, 1) := by decide +kernel
theorem dX12_watch_23 : decode cX12_watch 23 = .ok (.iconst 0, 1) := by decide +kernel
theorem dX12_watch_24 : decode cX12_watch 24 = .ok (.istore 4, 2) := by decide +kernel
theorem dX12_watch_26 : decode cX12_watch 26 = .ok (.iconst 0, 1) := by decide +kernel
theorem dX12_watch_27 : decode cX12_watch 27 = .ok (.istore 5, 2) := by decide +kernel
theorem dX12_watch_29 : decode cX12_watch 29 = .ok (.iload 5, 2) := by decide +kernel
theorem dX12_watch_31 : decode cX12_watch 31 = .ok (.aload_n 0, 1) := by decide +kernel
theorem dX12_watch_32 : decode cX12_watch 32 = .ok (.getfield 242, 3) := by decide +kernel
theorem dX12_watch_35 : decode cX12_watch 35 = .ok (.if_icmp .ge 64, 3) := by decide +kernel
theorem dX12_watch_38 : decode cX12_watch 38 = .ok (.iload 4, 2) := by decide +kernel
theorem dX12_watch_40 : decode cX12_watch 40 = .ok (.bipush 9, 2) := by decide +kernel
theorem dX12_watch_42 : decode cX12_watch 42 = .ok (.if_icmp .ge 57, 3) := by decide +kernel
theorem dX12_watch_45 : decode cX12_watch 45 = .ok (.aload_n 0, 1) := by decide +kernel
theorem dX12_watch_46 : decode cX12_watch 46 = .ok (.getfield 62, 3) := by decide +kernel
theorem dX12_watch_49 : decode cX12_watch 49 = .ok (.iload 5, 2) := by decide +kernel
theorem dX12_watch_51 : decode cX12_watch 51 = .ok (.baload, 1) := by decide +kernel
theorem dX12_watch_52 : decode cX12_watch 52 = .ok (.ifCond .ne 6, 3) := by decide +kernel
theorem dX12_watch_55 : decode cX12_watch 55 = .ok (.goto 38, 3) := by decide +kernel
theorem dX12_watch_58 : decode cX12_watch 58 = .ok (.iinc 4 1, 3) := by decide +kernel
theorem dX12_watch_61 : decode cX12_watch 61 = .ok (.aload_n 0, 1) := by decide +kernel
theorem dX12_watch_62 : decode cX12_watch 62 = .ok (.getfield 59, 3) := by decide +kernel
theorem dX12_watch_65 : decode cX12_watch 65 = .ok (.iload 5, 2) := by decide +kernel
theorem dX12_watch_67 : decode cX12_watch 67 = .ok (.iaload, 1) := by decide +kernel
theorem dX12_watch_68 : decode cX12_watch 68 = .ok (.iload_n 2, 1) := by decide +kernel
theorem dX12_watch_69 : decode cX12_watch 69 = .ok (.if_icmp .gt 24, 3) := by decide +kernel
theorem dX12_watch_72 : decode cX12_watch 72 = .ok (.iload_n 3, 1) := by decide +kernel
theorem dX12_watch_73 : decode cX12_watch 73 = .ok (.iconst 3, 1) := by decide +kernel
theorem dX12_watch_74 : decode cX12_watch 74 = .ok (.iload_n 1, 1) := by decide +kernel
theorem dX12_watch_75 : decode cX12_watch 75 = .ok (.imul, 1) := by decide +kernel
theorem dX12_watch_76 : decode cX12_watch 76 = .ok (.if_icmp .ne 6, 3) := by decide +kernel
theorem dX12_watch_79 : decode cX12_watch 79 = .ok (.goto 14, 3) := by decide +kernel
theorem dX12_watch_82 : decode cX12_watch 82 = .ok (.aload_n 0, 1) := by decide +kernel
theorem dX12_watch_83 : decode cX12_watch 83 = .ok (.getfield 178, 3) := by decide +kernel
theorem dX12_watch_86 : decode cX12_watch 86 = .ok (.iload_n 3, 1) := by decide +kernel
theorem dX12_watch_87 : decode cX12_watch 87 = .ok (.iload 5, 2) := by decide +kernel
theorem dX12_watch_89 : decode cX12_watch 89 = .ok (.iastore, 1) := by decide +kernel
theorem dX12_watch_90 : decode cX12_watch 90 = .ok (.iinc 3 1, 3) := by decide +kernel
theorem dX12_watch_93 : decode cX12_watch 93 = .ok (.iinc 5 1, 3) := by decide +kernel
theorem dX12_watch_96 : decode cX12_watch 96 = .ok (.goto (-67), 3) := by decide +kernel
theorem dX12_watch_99 : decode cX12_watch 99 = .ok (.iload_n 3, 1) := by decide +kernel
theorem dX12_watch_100 : decode cX12_watch 100 = .ok (.istore 5, 2) := by decide +kernel
theorem dX12_watch_102 : decode cX12_watch 102 = .ok (.iload 5, 2) := by decide +kernel
theorem dX12_watch_104 : decode cX12_watch 104 = .ok (.bipush 9, 2) := by decide +kernel
theorem dX12_watch_106 : decode cX12_watch 106 = .ok (.if_icmp .ge 18, 3) := by decide +kernel
theorem dX12_watch_109 : decode cX12_watch 109 = .ok (.aload_n 0, 1) := by decide +kernel
theorem dX12_watch_110 : decode cX12_watch 110 = .ok (.getfield 178, 3) := by decide +kernel
theorem dX12_watch_113 : decode cX12_watch 113 = .ok (.iload 5, 2) := by decide +kernel
theorem dX12_watch_115 : decode cX12_watch 115 = .ok (.bipush (-2), 2) := by decide +kernel
theorem dX12_watch_117 : decode cX12_watch 117 = .ok (.iastore, 1) := by decide +kernel
theorem dX12_watch_118 : decode cX12_watch 118 = .ok (.iinc 5 1, 3) := by decide +kernel
theorem dX12_watch_121 : decode cX12_watch 121 = .ok (.goto (-19), 3) := by decide +kernel
theorem dX12_watch_124 : decode cX12_watch 124 = .ok (.aload_n 0, 1) := by decide +kernel
theorem dX12_watch_125 : decode cX12_watch 125 = .ok (.iload_n 1, 1) := by decide +kernel
theorem dX12_watch_126 : decode cX12_watch 126 = .ok (.putfield 175, 3) := by decide +kernel
theorem dX12_watch_129 : decode cX12_watch 129 = .ok (.iload_n 3, 1) := by decide +kernel
theorem dX12_watch_130 : decode cX12_watch 130 = .ok (.ireturn, 1) := by decide +kernel
theorem dX12_watched_0 : decode cX12_watched 0 = .ok (.iload_n 1, 1) := by decide +kernel
theorem dX12_watched_1 : decode cX12_watched 1 = .ok (.iconst 0, 1) := by decide +kernel
theorem dX12_watched_2 : decode cX12_watched 2 = .ok (.iconst 2, 1) := by decide +kernel
theorem dX12_watched_3 : decode cX12_watched 3 = .ok (.invokestatic 230, 3) := by decide +kernel
theorem dX12_watched_6 : decode cX12_watched 6 = .ok (.ifCond .eq 33, 3) := by decide +kernel
theorem dX12_watched_9 : decode cX12_watched 9 = .ok (.iload_n 2, 1) := by decide +kernel
theorem dX12_watched_10 : decode cX12_watched 10 = .ok (.iconst 0, 1) := by decide +kernel
theorem dX12_watched_11 : decode cX12_watched 11 = .ok (.aload_n 0, 1) := by decide +kernel
theorem dX12_watched_12 : decode cX12_watched 12 = .ok (.getfield 175, 3) := by decide +kernel
theorem dX12_watched_15 : decode cX12_watched 15 = .ok (.iconst 1, 1) := by decide +kernel
theorem dX12_watched_16 : decode cX12_watched 16 = .ok (.isub, 1) := by decide +kernel
theorem dX12_watched_17 : decode cX12_watched 17 = .ok (.invokestatic 230, 3) := by decide +kernel
theorem dX12_watched_20 : decode cX12_watched 20 = .ok (.ifCond .eq 19, 3) := by decide +kernel
theorem dX12_watched_23 : decode cX12_watched 23 = .ok (.aload_n 0, 1) := by decide +kernel
theorem dX12_watched_24 : decode cX12_watched 24 = .ok (.getfield 178, 3) := by decide +kernel
theorem dX12_watched_27 : decode cX12_watched 27 = .ok (.aload_n 0, 1) := by decide +kernel
theorem dX12_watched_28 : decode cX12_watched 28 = .ok (.getfield 175, 3) := by decide +kernel
theorem dX12_watched_31 : decode cX12_watched 31 = .ok (.iload_n 1, 1) := by decide +kernel
theorem dX12_watched_32 : decode cX12_watched 32 = .ok (.imul, 1) := by decide +kernel
theorem dX12_watched_33 : decode cX12_watched 33 = .ok (.iload_n 2, 1) := by decide +kernel
theorem dX12_watched_34 : decode cX12_watched 34 = .ok (.iadd, 1) := by decide +kernel
theorem dX12_watched_35 : decode cX12_watched 35 = .ok (.iaload, 1) := by decide +kernel
theorem dX12_watched_36 : decode cX12_watched 36 = .ok (.goto 4, 3) := by decide +kernel
theorem dX12_watched_39 : decode cX12_watched 39 = .ok (.iconst (-1), 1) := by decide +kernel
theorem dX12_watched_40 : decode cX12_watched 40 = .ok (.ireturn, 1) := by decide +kernel
theorem dX12_aim_0 : decode cX12_aim 0 = .ok (.iload_n 1, 1) := by decide +kernel
theorem dX12_aim_1 : decode cX12_aim 1 = .ok (.iconst 0, 1) := by decide +kernel
theorem dX12_aim_2 : decode cX12_aim 2 = .ok (.bipush 31, 2) := by decide +kernel
theorem dX12_aim_4 : decode cX12_aim 4 = .ok (.invokestatic 230, 3) := by decide +kernel
theorem dX12_aim_7 : decode cX12_aim 7 = .ok (.ifCond .eq 13, 3) := by decide +kernel
theorem dX12_aim_10 : decode cX12_aim 10 = .ok (.iload_n 2, 1) := by decide +kernel
theorem dX12_aim_11 : decode cX12_aim 11 = .ok (.iconst 0, 1) := by decide +kernel
theorem dX12_aim_12 : decode cX12_aim 12 = .ok (.bipush 9, 2) := by decide +kernel
theorem dX12_aim_14 : decode cX12_aim 14 = .ok (.invokestatic 230, 3) := by decide +kernel
theorem dX12_aim_17 : decode cX12_aim 17 = .ok (.ifCond .ne 5, 3) := by decide +kernel
theorem dX12_aim_20 : decode cX12_aim 20 = .ok (.iconst (-1), 1) := by decide +kernel
theorem dX12_aim_21 : decode cX12_aim 21 = .ok (.ireturn, 1) := by decide +kernel
theorem dX12_aim_22 : decode cX12_aim 22 = .ok (.aload_n 0, 1) := by decide +kernel
theorem dX12_aim_23 : decode cX12_aim 23 = .ok (.getfield 440, 3) := by decide +kernel
theorem dX12_aim_26 : decode cX12_aim 26 = .ok (.bipush 6, 2) := by decide +kernel
theorem dX12_aim_28 : decode cX12_aim 28 = .ok (.if_icmp .ne 6, 3) := by decide +kernel
theorem dX12_aim_31 : decode cX12_aim 31 = .ok (.bipush (-3), 2) := by decide +kernel
theorem dX12_aim_33 : decode cX12_aim 33 = .ok (.ireturn, 1) := by decide +kernel
theorem dX12_aim_34 : decode cX12_aim 34 = .ok (.aload_n 0, 1) := by decide +kernel
theorem dX12_aim_35 : decode cX12_aim 35 = .ok (.getfield 181, 3) := by decide +kernel
theorem dX12_aim_38 : decode cX12_aim 38 = .ok (.aload_n 0, 1) := by decide +kernel
theorem dX12_aim_39 : decode cX12_aim 39 = .ok (.getfield 440, 3) := by decide +kernel
theorem dX12_aim_42 : decode cX12_aim 42 = .ok (.iload_n 2, 1) := by decide +kernel
theorem dX12_aim_43 : decode cX12_aim 43 = .ok (.iastore, 1) := by decide +kernel
theorem dX12_aim_44 : decode cX12_aim 44 = .ok (.aload_n 0, 1) := by decide +kernel
theorem dX12_aim_45 : decode cX12_aim 45 = .ok (.dup, 1) := by decide +kernel
theorem dX12_aim_46 : decode cX12_aim 46 = .ok (.getfield 440, 3) := by decide +kernel
theorem dX12_aim_49 : decode cX12_aim 49 = .ok (.iconst 1, 1) := by decide +kernel
theorem dX12_aim_50 : decode cX12_aim 50 = .ok (.iadd, 1) := by decide +kernel
theorem dX12_aim_51 : decode cX12_aim 51 = .ok (.putfield 440, 3) := by decide +kernel
theorem dX12_aim_54 : decode cX12_aim 54 = .ok (.aload_n 0, 1) := by decide +kernel
theorem dX12_aim_55 : decode cX12_aim 55 = .ok (.getfield 440, 3) := by decide +kernel
theorem dX12_aim_58 : decode cX12_aim 58 = .ok (.ireturn, 1) := by decide +kernel
theorem dX12_rock_0 : decode cX12_rock 0 = .ok (.iload_n 1, 1) := by decide +kernel
theorem dX12_rock_1 : decode cX12_rock 1 = .ok (.iconst 0, 1) := by decide +kernel
theorem dX12_rock_2 : decode cX12_rock 2 = .ok (.iconst 3, 1) := by decide +kernel
theorem dX12_rock_3 : decode cX12_rock 3 = .ok (.invokestatic 230, 3) := by decide +kernel
theorem dX12_rock_6 : decode cX12_rock 6 = .ok (.ifCond .eq 22, 3) := by decide +kernel
theorem dX12_rock_9 : decode cX12_rock 9 = .ok (.iload_n 2, 1) := by decide +kernel
theorem dX12_rock_10 : decode cX12_rock 10 = .ok (.iconst 0, 1) := by decide +kernel
theorem dX12_rock_11 : decode cX12_rock 11 = .ok (.iconst 5, 1) := by decide +kernel
theorem dX12_rock_12 : decode cX12_rock 12 = .ok (.invokestatic 230, 3) := by decide +kernel
theorem dX12_rock_15 : decode cX12_rock 15 = .ok (.ifCond .eq 13, 3) := by decide +kernel
theorem dX12_rock_18 : decode cX12_rock 18 = .ok (.iload_n 3, 1) := by decide +kernel
theorem dX12_rock_19 : decode cX12_rock 19 = .ok (.iconst 1, 1) := by decide +kernel
theorem dX12_rock_20 : decode cX12_rock 20 = .ok (.bipush 9, 2) := by decide +kernel
theorem dX12_rock_22 : decode cX12_rock 22 = .ok (.invokestatic 230, 3) := by decide +kernel
theorem dX12_rock_25 : decode cX12_rock 25 = .ok (.ifCond .ne 5, 3) := by decide +kernel
theorem dX12_rock_28 : decode cX12_rock 28 = .ok (.iconst (-1), 1) := by decide +kernel
theorem dX12_rock_29 : decode cX12_rock 29 = .ok (.ireturn, 1) := by decide +kernel
theorem dX12_rock_30 : decode cX12_rock 30 = .ok (.aload_n 0, 1) := by decide +kernel
theorem dX12_rock_31 : decode cX12_rock 31 = .ok (.getfield 184, 3) := by decide +kernel
theorem dX12_rock_34 : decode cX12_rock 34 = .ok (.bipush 6, 2) := by decide +kernel
theorem dX12_rock_36 : decode cX12_rock 36 = .ok (.iload_n 1, 1) := by decide +kernel
theorem dX12_rock_37 : decode cX12_rock 37 = .ok (.imul, 1) := by decide +kernel
theorem dX12_rock_38 : decode cX12_rock 38 = .ok (.iload_n 2, 1) := by decide +kernel
theorem dX12_rock_39 : decode cX12_rock 39 = .ok (.iadd, 1) := by decide +kernel
theorem dX12_rock_40 : decode cX12_rock 40 = .ok (.iaload, 1) := by decide +kernel
theorem dX12_rock_41 : decode cX12_rock 41 = .ok (.istore 4, 2) := by decide +kernel
theorem dX12_rock_43 : decode cX12_rock 43 = .ok (.aload_n 0, 1) := by decide +kernel
theorem dX12_rock_44 : decode cX12_rock 44 = .ok (.getfield 184, 3) := by decide +kernel
theorem dX12_rock_47 : decode cX12_rock 47 = .ok (.bipush 6, 2) := by decide +kernel
theorem dX12_rock_49 : decode cX12_rock 49 = .ok (.iload_n 1, 1) := by decide +kernel
theorem dX12_rock_50 : decode cX12_rock 50 = .ok (.imul, 1) := by decide +kernel
theorem dX12_rock_51 : decode cX12_rock 51 = .ok (.iload_n 2, 1) := by decide +kernel
theorem dX12_rock_52 : decode cX12_rock 52 = .ok (.iadd, 1) := by decide +kernel
theorem dX12_rock_53 : decode cX12_rock 53 = .ok (.iload_n 3, 1) := by decide +kernel
theorem dX12_rock_54 : decode cX12_rock 54 = .ok (.iastore, 1) := by decide +kernel
theorem dX12_rock_55 : decode cX12_rock 55 = .ok (.iload 4, 2) := by decide +kernel
theorem dX12_rock_57 : decode cX12_rock 57 = .ok (.ireturn, 1) := by decide +kernel
theorem dX12_minutesAt_0 : decode cX12_minutesAt 0 = .ok (.iconst 0, 1) := by decide +kernel
theorem dX12_minutesAt_1 : decode cX12_minutesAt 1 = .ok (.istore 5, 2) := by decide +kernel
theorem dX12_minutesAt_3 : decode cX12_minutesAt 3 = .ok (.iconst 0, 1) := by decide +kernel
theorem dX12_minutesAt_4 : decode cX12_minutesAt 4 = .ok (.istore 6, 2) := by decide +kernel
theorem dX12_minutesAt_6 : decode cX12_minutesAt 6 = .ok (.iload 6, 2) := by decide +kernel
theorem dX12_minutesAt_8 : decode cX12_minutesAt 8 = .ok (.iload_n 3, 1) := by decide +kernel
theorem dX12_minutesAt_9 : decode cX12_minutesAt 9 = .ok (.if_icmp .ge 58, 3) := by decide +kernel
theorem dX12_minutesAt_12 : decode cX12_minutesAt 12 = .ok (.aload_n 0, 1) := by decide +kernel
theorem dX12_minutesAt_13 : decode cX12_minutesAt 13 = .ok (.getfield 181, 3) := by decide +kernel
theorem dX12_minutesAt_16 : decode cX12_minutesAt 16 = .ok (.iload_n 1, 1) := by decide +kernel
theorem dX12_minutesAt_17 : decode cX12_minutesAt 17 = .ok (.iaload, 1) := by decide +kernel
theorem dX12_minutesAt_18 : decode cX12_minutesAt 18 = .ok (.iconst 1, 1) := by decide +kernel
theorem dX12_minutesAt_19 : decode cX12_minutesAt 19 = .ok (.iadd, 1) := by decide +kernel
theorem dX12_minutesAt_20 : decode cX12_minutesAt 20 = .ok (.iload 4, 2) := by decide +kernel
theorem dX12_minutesAt_22 : decode cX12_minutesAt 22 = .ok (.imul, 1) := by decide +kernel
theorem dX12_minutesAt_23 : decode cX12_minutesAt 23 = .ok (.aload_n 0, 1) := by decide +kernel
theorem dX12_minutesAt_24 : decode cX12_minutesAt 24 = .ok (.getfield 69, 3) := by decide +kernel
theorem dX12_minutesAt_27 : decode cX12_minutesAt 27 = .ok (.iload_n 2, 1) := by decide +kernel
theorem dX12_minutesAt_28 : decode cX12_minutesAt 28 = .ok (.iaload, 1) := by decide +kernel
theorem dX12_minutesAt_29 : decode cX12_minutesAt 29 = .ok (.imul, 1) := by decide +kernel
theorem dX12_minutesAt_30 : decode cX12_minutesAt 30 = .ok (.aload_n 0, 1) := by decide +kernel
theorem dX12_minutesAt_31 : decode cX12_minutesAt 31 = .ok (.getfield 184, 3) := by decide +kernel
theorem dX12_minutesAt_34 : decode cX12_minutesAt 34 = .ok (.bipush 6, 2) := by decide +kernel
theorem dX12_minutesAt_36 : decode cX12_minutesAt 36 = .ok (.iload 6, 2) := by decide +kernel
theorem dX12_minutesAt_38 : decode cX12_minutesAt 38 = .ok (.imul, 1) := by decide +kernel
theorem dX12_minutesAt_39 : decode cX12_minutesAt 39 = .ok (.iload_n 1, 1) := by decide +kernel
theorem dX12_minutesAt_40 : decode cX12_minutesAt 40 = .ok (.iadd, 1) := by decide +kernel
theorem dX12_minutesAt_41 : decode cX12_minutesAt 41 = .ok (.iaload, 1) := by decide +kernel
theorem dX12_minutesAt_42 : decode cX12_minutesAt 42 = .ok (.imul, 1) := by decide +kernel
theorem dX12_minutesAt_43 : decode cX12_minutesAt 43 = .ok (.istore 7, 2) := by decide +kernel
theorem dX12_minutesAt_45 : decode cX12_minutesAt 45 = .ok (.iload 7, 2) := by decide +kernel
theorem dX12_minutesAt_47 : decode cX12_minutesAt 47 = .ok (.iload 5, 2) := by decide +kernel
theorem dX12_minutesAt_49 : decode cX12_minutesAt 49 = .ok (.if_icmp .le 8, 3) := by decide +kernel
theorem dX12_minutesAt_52 : decode cX12_minutesAt 52 = .ok (.iload 7, 2) := by decide +kernel
theorem dX12_minutesAt_54 : decode cX12_minutesAt 54 = .ok (.goto 5, 3) := by decide +kernel
theorem dX12_minutesAt_57 : decode cX12_minutesAt 57 = .ok (.iload 5, 2) := by decide +kernel
theorem dX12_minutesAt_59 : decode cX12_minutesAt 59 = .ok (.istore 5, 2) := by decide +kernel
theorem dX12_minutesAt_61 : decode cX12_minutesAt 61 = .ok (.iinc 6 1, 3) := by decide +kernel
theorem dX12_minutesAt_64 : decode cX12_minutesAt 64 = .ok (.goto (-58), 3) := by decide +kernel
theorem dX12_minutesAt_67 : decode cX12_minutesAt 67 = .ok (.iload 5, 2) := by decide +kernel
theorem dX12_minutesAt_69 : decode cX12_minutesAt 69 = .ok (.ireturn, 1) := by decide +kernel
theorem dX12_aimed_0 : decode cX12_aimed 0 = .ok (.iload_n 1, 1) := by decide +kernel
theorem dX12_aimed_1 : decode cX12_aimed 1 = .ok (.iconst 1, 1) := by decide +kernel
theorem dX12_aimed_2 : decode cX12_aimed 2 = .ok (.iconst 4, 1) := by decide +kernel
theorem dX12_aimed_3 : decode cX12_aimed 3 = .ok (.invokestatic 230, 3) := by decide +kernel
theorem dX12_aimed_6 : decode cX12_aimed 6 = .ok (.ifCond .eq 29, 3) := by decide +kernel
theorem dX12_aimed_9 : decode cX12_aimed 9 = .ok (.iload_n 2, 1) := by decide +kernel
theorem dX12_aimed_10 : decode cX12_aimed 10 = .ok (.iconst 1, 1) := by decide +kernel
theorem dX12_aimed_11 : decode cX12_aimed 11 = .ok (.bipush 60, 2) := by decide +kernel
theorem dX12_aimed_13 : decode cX12_aimed 13 = .ok (.invokestatic 230, 3) := by decide +kernel
theorem dX12_aimed_16 : decode cX12_aimed 16 = .ok (.ifCond .eq 19, 3) := by decide +kernel
theorem dX12_aimed_19 : decode cX12_aimed 19 = .ok (.iload_n 3, 1) := by decide +kernel
