theorem dX12_worked_10 : decode cX12_worked 10 = .ok (.istore 5, 2) := by decide +kernel
theorem dX12_worked_12 : decode cX12_worked 12 = .ok (.iload 5, 2) := by decide +kernel
theorem dX12_worked_14 : decode cX12_worked 14 = .ok (.sipush 170, 3) := by decide +kernel
theorem dX12_worked_17 : decode cX12_worked 17 = .ok (.iload_n 1, 1) := by decide +kernel
theorem dX12_worked_18 : decode cX12_worked 18 = .ok (.imul, 1) := by decide +kernel
theorem dX12_worked_19 : decode cX12_worked 19 = .ok (.iload_n 3, 1) := by decide +kernel
theorem dX12_worked_20 : decode cX12_worked 20 = .ok (.iadd, 1) := by decide +kernel
theorem dX12_worked_21 : decode cX12_worked 21 = .ok (.if_icmp .ge 167, 3) := by decide +kernel
theorem dX12_worked_24 : decode cX12_worked 24 = .ok (.aload_n 0, 1) := by decide +kernel
theorem dX12_worked_25 : decode cX12_worked 25 = .ok (.getfield 118, 3) := by decide +kernel
theorem dX12_worked_28 : decode cX12_worked 28 = .ok (.iload 5, 2) := by decide +kernel
theorem dX12_worked_30 : decode cX12_worked 30 = .ok (.iaload, 1) := by decide +kernel
theorem dX12_worked_31 : decode cX12_worked 31 = .ok (.istore 6, 2) := by decide +kernel
theorem dX12_worked_33 : decode cX12_worked 33 = .ok (.iload 6, 2) := by decide +kernel
theorem dX12_worked_35 : decode cX12_worked 35 = .ok (.iconst 1, 1) := by decide +kernel
theorem dX12_worked_36 : decode cX12_worked 36 = .ok (.if_icmp .eq 9, 3) := by decide +kernel
theorem dX12_worked_39 : decode cX12_worked 39 = .ok (.iload 6, 2) := by decide +kernel
theorem dX12_worked_41 : decode cX12_worked 41 = .ok (.iconst 2, 1) := by decide +kernel
theorem dX12_worked_42 : decode cX12_worked 42 = .ok (.if_icmp .ne 44, 3) := by decide +kernel
theorem dX12_worked_45 : decode cX12_worked 45 = .ok (.aload_n 0, 1) := by decide +kernel
theorem dX12_worked_46 : decode cX12_worked 46 = .ok (.getfield 127, 3) := by decide +kernel
theorem dX12_worked_49 : decode cX12_worked 49 = .ok (.iload 4, 2) := by decide +kernel
theorem dX12_worked_51 : decode cX12_worked 51 = .ok (.iload 6, 2) := by decide +kernel
theorem dX12_worked_53 : decode cX12_worked 53 = .ok (.iconst 1, 1) := by decide +kernel
theorem dX12_worked_54 : decode cX12_worked 54 = .ok (.if_icmp .ne 13, 3) := by decide +kernel
theorem dX12_worked_57 : decode cX12_worked 57 = .ok (.aload_n 0, 1) := by decide +kernel
theorem dX12_worked_58 : decode cX12_worked 58 = .ok (.getfield 121, 3) := by decide +kernel
theorem dX12_worked_61 : decode cX12_worked 61 = .ok (.iload 5, 2) := by decide +kernel
theorem dX12_worked_63 : decode cX12_worked 63 = .ok (.iaload, 1) := by decide +kernel
theorem dX12_worked_64 : decode cX12_worked 64 = .ok (.goto 15, 3) := by decide +kernel
theorem dX12_worked_67 : decode cX12_worked 67 = .ok (.aload_n 0, 1) := by decide +kernel
theorem dX12_worked_68 : decode cX12_worked 68 = .ok (.getfield 124, 3) := by decide +kernel
theorem dX12_worked_71 : decode cX12_worked 71 = .ok (.aload_n 0, 1) := by decide +kernel
theorem dX12_worked_72 : decode cX12_worked 72 = .ok (.getfield 121, 3) := by decide +kernel
theorem dX12_worked_75 : decode cX12_worked 75 = .ok (.iload 5, 2) := by decide +kernel
theorem dX12_worked_77 : decode cX12_worked 77 = .ok (.iaload, 1) := by decide +kernel
theorem dX12_worked_78 : decode cX12_worked 78 = .ok (.iaload, 1) := by decide +kernel
theorem dX12_worked_79 : decode cX12_worked 79 = .ok (.iastore, 1) := by decide +kernel
theorem dX12_worked_80 : decode cX12_worked 80 = .ok (.iinc 4 1, 3) := by decide +kernel
theorem dX12_worked_83 : decode cX12_worked 83 = .ok (.goto 99, 3) := by decide +kernel
theorem dX12_worked_86 : decode cX12_worked 86 = .ok (.iload 6, 2) := by decide +kernel
theorem dX12_worked_88 : decode cX12_worked 88 = .ok (.iconst 3, 1) := by decide +kernel
theorem dX12_worked_89 : decode cX12_worked 89 = .ok (.if_icmp .ne 32, 3) := by decide +kernel
theorem dX12_worked_92 : decode cX12_worked 92 = .ok (.aload_n 0, 1) := by decide +kernel
theorem dX12_worked_93 : decode cX12_worked 93 = .ok (.getfield 127, 3) := by decide +kernel
theorem dX12_worked_96 : decode cX12_worked 96 = .ok (.iload 4, 2) := by decide +kernel
theorem dX12_worked_98 : decode cX12_worked 98 = .ok (.iconst 1, 1) := by decide +kernel
theorem dX12_worked_99 : decode cX12_worked 99 = .ok (.isub, 1) := by decide +kernel
theorem dX12_worked_100 : decode cX12_worked 100 = .ok (.aload_n 0, 1) := by decide +kernel
theorem dX12_worked_101 : decode cX12_worked 101 = .ok (.getfield 127, 3) := by decide +kernel
theorem dX12_worked_104 : decode cX12_worked 104 = .ok (.iload 4, 2) := by decide +kernel
theorem dX12_worked_106 : decode cX12_worked 106 = .ok (.iconst 1, 1) := by decide +kernel
theorem dX12_worked_107 : decode cX12_worked 107 = .ok (.isub, 1) := by decide +kernel
theorem dX12_worked_108 : decode cX12_worked 108 = .ok (.iaload, 1) := by decide +kernel
theorem dX12_worked_109 : decode cX12_worked 109 = .ok (.ifCond .ne 7, 3) := by decide +kernel
theorem dX12_worked_112 : decode cX12_worked 112 = .ok (.iconst 1, 1) := by decide +kernel
theorem dX12_worked_113 : decode cX12_worked 113 = .ok (.goto 4, 3) := by decide +kernel
theorem dX12_worked_116 : decode cX12_worked 116 = .ok (.iconst 0, 1) := by decide +kernel
theorem dX12_worked_117 : decode cX12_worked 117 = .ok (.iastore, 1) := by decide +kernel
theorem dX12_worked_118 : decode cX12_worked 118 = .ok (.goto 64, 3) := by decide +kernel
theorem dX12_worked_121 : decode cX12_worked 121 = .ok (.iload 6, 2) := by decide +kernel
theorem dX12_worked_123 : decode cX12_worked 123 = .ok (.iconst 4, 1) := by decide +kernel
theorem dX12_worked_124 : decode cX12_worked 124 = .ok (.if_icmp .ne 25, 3) := by decide +kernel
theorem dX12_worked_127 : decode cX12_worked 127 = .ok (.aload_n 0, 1) := by decide +kernel
theorem dX12_worked_128 : decode cX12_worked 128 = .ok (.getfield 127, 3) := by decide +kernel
theorem dX12_worked_131 : decode cX12_worked 131 = .ok (.iload 4, 2) := by decide +kernel
theorem dX12_worked_133 : decode cX12_worked 133 = .ok (.iconst 1, 1) := by decide +kernel
theorem dX12_worked_134 : decode cX12_worked 134 = .ok (.isub, 1) := by decide +kernel
theorem dX12_worked_135 : decode cX12_worked 135 = .ok (.aload_n 0, 1) := by decide +kernel
theorem dX12_worked_136 : decode cX12_worked 136 = .ok (.getfield 127, 3) := by decide +kernel
theorem dX12_worked_139 : decode cX12_worked 139 = .ok (.iload 4, 2) := by decide +kernel
theorem dX12_worked_141 : decode cX12_worked 141 = .ok (.iconst 1, 1) := by decide +kernel
theorem dX12_worked_142 : decode cX12_worked 142 = .ok (.isub, 1) := by decide +kernel
theorem dX12_worked_143 : decode cX12_worked 143 = .ok (.iaload, 1) := by decide +kernel
theorem dX12_worked_144 : decode cX12_worked 144 = .ok (.ineg, 1) := by decide +kernel
theorem dX12_worked_145 : decode cX12_worked 145 = .ok (.iastore, 1) := by decide +kernel
theorem dX12_worked_146 : decode cX12_worked 146 = .ok (.goto 36, 3) := by decide +kernel
theorem dX12_worked_149 : decode cX12_worked 149 = .ok (.iinc 4 (-1), 3) := by decide +kernel
theorem dX12_worked_152 : decode cX12_worked 152 = .ok (.aload_n 0, 1) := by decide +kernel
theorem dX12_worked_153 : decode cX12_worked 153 = .ok (.getfield 127, 3) := by decide +kernel
theorem dX12_worked_156 : decode cX12_worked 156 = .ok (.iload 4, 2) := by decide +kernel
theorem dX12_worked_158 : decode cX12_worked 158 = .ok (.iconst 1, 1) := by decide +kernel
theorem dX12_worked_159 : decode cX12_worked 159 = .ok (.isub, 1) := by decide +kernel
theorem dX12_worked_160 : decode cX12_worked 160 = .ok (.iload 6, 2) := by decide +kernel
theorem dX12_worked_162 : decode cX12_worked 162 = .ok (.aload_n 0, 1) := by decide +kernel
theorem dX12_worked_163 : decode cX12_worked 163 = .ok (.getfield 127, 3) := by decide +kernel
theorem dX12_worked_166 : decode cX12_worked 166 = .ok (.iload 4, 2) := by decide +kernel
theorem dX12_worked_168 : decode cX12_worked 168 = .ok (.iconst 1, 1) := by decide +kernel
theorem dX12_worked_169 : decode cX12_worked 169 = .ok (.isub, 1) := by decide +kernel
theorem dX12_worked_170 : decode cX12_worked 170 = .ok (.iaload, 1) := by decide +kernel
theorem dX12_worked_171 : decode cX12_worked 171 = .ok (.aload_n 0, 1) := by decide +kernel
theorem dX12_worked_172 : decode cX12_worked 172 = .ok (.getfield 127, 3) := by decide +kernel
theorem dX12_worked_175 : decode cX12_worked 175 = .ok (.iload 4, 2) := by decide +kernel
theorem dX12_worked_177 : decode cX12_worked 177 = .ok (.iaload, 1) := by decide +kernel
theorem dX12_worked_178 : decode cX12_worked 178 = .ok (.invokestatic 388, 3) := by decide +kernel
theorem dX12_worked_181 : decode cX12_worked 181 = .ok (.iastore, 1) := by decide +kernel
theorem dX12_worked_182 : decode cX12_worked 182 = .ok (.iinc 5 1, 3) := by decide +kernel
theorem dX12_worked_185 : decode cX12_worked 185 = .ok (.goto (-173), 3) := by decide +kernel
theorem dX12_worked_188 : decode cX12_worked 188 = .ok (.aload_n 0, 1) := by decide +kernel
theorem dX12_worked_189 : decode cX12_worked 189 = .ok (.getfield 127, 3) := by decide +kernel
theorem dX12_worked_192 : decode cX12_worked 192 = .ok (.iconst 0, 1) := by decide +kernel
theorem dX12_worked_193 : decode cX12_worked 193 = .ok (.iaload, 1) := by decide +kernel
theorem dX12_worked_194 : decode cX12_worked 194 = .ok (.ireturn, 1) := by decide +kernel
theorem dX12_gives_0 : decode cX12_gives 0 = .ok (.iconst 0, 1) := by decide +kernel
theorem dX12_gives_1 : decode cX12_gives 1 = .ok (.istore_n 2, 1) := by decide +kernel
theorem dX12_gives_2 : decode cX12_gives 2 = .ok (.iconst 0, 1) := by decide +kernel
theorem dX12_gives_3 : decode cX12_gives 3 = .ok (.istore_n 3, 1) := by decide +kernel
theorem dX12_gives_4 : decode cX12_gives 4 = .ok (.iload_n 3, 1) := by decide +kernel
theorem dX12_gives_5 : decode cX12_gives 5 = .ok (.aload_n 0, 1) := by decide +kernel
theorem dX12_gives_6 : decode cX12_gives 6 = .ok (.getfield 109, 3) := by decide +kernel
theorem dX12_gives_9 : decode cX12_gives 9 = .ok (.iload_n 1, 1) := by decide +kernel
theorem dX12_gives_10 : decode cX12_gives 10 = .ok (.iaload, 1) := by decide +kernel
theorem dX12_gives_11 : decode cX12_gives 11 = .ok (.if_icmp .ge 72, 3) := by decide +kernel
theorem dX12_gives_14 : decode cX12_gives 14 = .ok (.bipush 90, 2) := by decide +kernel
theorem dX12_gives_16 : decode cX12_gives 16 = .ok (.iload_n 1, 1) := by decide +kernel
theorem dX12_gives_17 : decode cX12_gives 17 = .ok (.imul, 1) := by decide +kernel
theorem dX12_gives_18 : decode cX12_gives 18 = .ok (.iload_n 3, 1) := by decide +kernel
theorem dX12_gives_19 : decode cX12_gives 19 = .ok (.iadd, 1) := by decide +kernel
theorem dX12_gives_20 : decode cX12_gives 20 = .ok (.istore 4, 2) := by decide +kernel
theorem dX12_gives_22 : decode cX12_gives 22 = .ok (.aload_n 0, 1) := by decide +kernel
theorem dX12_gives_23 : decode cX12_gives 23 = .ok (.getfield 112, 3) := by decide +kernel
theorem dX12_gives_26 : decode cX12_gives 26 = .ok (.iload 4, 2) := by decide +kernel
theorem dX12_gives_28 : decode cX12_gives 28 = .ok (.iaload, 1) := by decide +kernel
theorem dX12_gives_29 : decode cX12_gives 29 = .ok (.iload_n 2, 1) := by decide +kernel
theorem dX12_gives_30 : decode cX12_gives 30 = .ok (.if_icmp .eq 19, 3) := by decide +kernel
theorem dX12_gives_33 : decode cX12_gives 33 = .ok (.aload_n 0, 1) := by decide +kernel
theorem dX12_gives_34 : decode cX12_gives 34 = .ok (.iload_n 1, 1) := by decide +kernel
theorem dX12_gives_35 : decode cX12_gives 35 = .ok (.iload_n 2, 1) := by decide +kernel
theorem dX12_gives_36 : decode cX12_gives 36 = .ok (.aload_n 0, 1) := by decide +kernel
theorem dX12_gives_37 : decode cX12_gives 37 = .ok (.getfield 112, 3) := by decide +kernel
theorem dX12_gives_40 : decode cX12_gives 40 = .ok (.iload 4, 2) := by decide +kernel
theorem dX12_gives_42 : decode cX12_gives 42 = .ok (.iaload, 1) := by decide +kernel
theorem dX12_gives_43 : decode cX12_gives 43 = .ok (.invokevirtual 391, 3) := by decide +kernel
theorem dX12_gives_46 : decode cX12_gives 46 = .ok (.ifCond .eq 23, 3) := by decide +kernel
theorem dX12_gives_49 : decode cX12_gives 49 = .ok (.aload_n 0, 1) := by decide +kernel
theorem dX12_gives_50 : decode cX12_gives 50 = .ok (.iload_n 1, 1) := by decide +kernel
theorem dX12_gives_51 : decode cX12_gives 51 = .ok (.aload_n 0, 1) := by decide +kernel
theorem dX12_gives_52 : decode cX12_gives 52 = .ok (.getfield 112, 3) := by decide +kernel
theorem dX12_gives_55 : decode cX12_gives 55 = .ok (.iload 4, 2) := by decide +kernel
theorem dX12_gives_57 : decode cX12_gives 57 = .ok (.iaload, 1) := by decide +kernel
theorem dX12_gives_58 : decode cX12_gives 58 = .ok (.aload_n 0, 1) := by decide +kernel
theorem dX12_gives_59 : decode cX12_gives 59 = .ok (.getfield 115, 3) := by decide +kernel
theorem dX12_gives_62 : decode cX12_gives 62 = .ok (.iload 4, 2) := by decide +kernel
theorem dX12_gives_64 : decode cX12_gives 64 = .ok (.iaload, 1) := by decide +kernel
theorem dX12_gives_65 : decode cX12_gives 65 = .ok (.invokevirtual 391, 3) := by decide +kernel
theorem dX12_gives_68 : decode cX12_gives 68 = .ok (.ireturn, 1) := by decide +kernel
theorem dX12_gives_69 : decode cX12_gives 69 = .ok (.aload_n 0, 1) := by decide +kernel
theorem dX12_gives_70 : decode cX12_gives 70 = .ok (.getfield 115, 3) := by decide +kernel
theorem dX12_gives_73 : decode cX12_gives 73 = .ok (.iload 4, 2) := by decide +kernel
theorem dX12_gives_75 : decode cX12_gives 75 = .ok (.iaload, 1) := by decide +kernel
theorem dX12_gives_76 : decode cX12_gives 76 = .ok (.istore_n 2, 1) := by decide +kernel
theorem dX12_gives_77 : decode cX12_gives 77 = .ok (.iinc 3 1, 3) := by decide +kernel
theorem dX12_gives_80 : decode cX12_gives 80 = .ok (.goto (-76), 3) := by decide +kernel
theorem dX12_gives_83 : decode cX12_gives 83 = .ok (.iconst 0, 1) := by decide +kernel
theorem dX12_gives_84 : decode cX12_gives 84 = .ok (.ireturn, 1) := by decide +kernel
theorem dX12_saysNow_0 : decode cX12_saysNow 0 = .ok (.aload_n 0, 1) := by decide +kernel
theorem dX12_saysNow_1 : decode cX12_saysNow 1 = .ok (.iload_n 1, 1) := by decide +kernel
theorem dX12_saysNow_2 : decode cX12_saysNow 2 = .ok (.aload_n 0, 1) := by decide +kernel
theorem dX12_saysNow_3 : decode cX12_saysNow 3 = .ok (.getfield 281, 3) := by decide +kernel
theorem dX12_saysNow_6 : decode cX12_saysNow 6 = .ok (.aload_n 0, 1) := by decide +kernel
theorem dX12_saysNow_7 : decode cX12_saysNow 7 = .ok (.getfield 281, 3) := by decide +kernel
theorem dX12_saysNow_10 : decode cX12_saysNow 10 = .ok (.invokevirtual 385, 3) := by decide +kernel
theorem dX12_saysNow_13 : decode cX12_saysNow 13 = .ok (.istore 4, 2) := by decide +kernel
theorem dX12_saysNow_15 : decode cX12_saysNow 15 = .ok (.iload 4, 2) := by decide +kernel
theorem dX12_saysNow_17 : decode cX12_saysNow 17 = .ok (.ifCond .ge 5, 3) := by decide +kernel
theorem dX12_saysNow_20 : decode cX12_saysNow 20 = .ok (.iload_n 3, 1) := by decide +kernel
theorem dX12_saysNow_21 : decode cX12_saysNow 21 = .ok (.ireturn, 1) := by decide +kernel
theorem dX12_saysNow_22 : decode cX12_saysNow 22 = .ok (.iconst 0, 1) := by decide +kernel
theorem dX12_saysNow_23 : decode cX12_saysNow 23 = .ok (.istore 5, 2) := by decide +kernel
theorem dX12_saysNow_25 : decode cX12_saysNow 25 = .ok (.iconst 0, 1) := by decide +kernel
theorem dX12_saysNow_26 : decode cX12_saysNow 26 = .ok (.istore 6, 2) := by decide +kernel
theorem dX12_saysNow_28 : decode cX12_saysNow 28 = .ok (.iload 6, 2) := by decide +kernel
theorem dX12_saysNow_30 : decode cX12_saysNow 30 = .ok (.aload_n 0, 1) := by decide +kernel
theorem dX12_saysNow_31 : decode cX12_saysNow 31 = .ok (.getfield 242, 3) := by decide +kernel
theorem dX12_saysNow_34 : decode cX12_saysNow 34 = .ok (.if_icmp .ge 29, 3) := by decide +kernel
theorem dX12_saysNow_37 : decode cX12_saysNow 37 = .ok (.iload 5, 2) := by decide +kernel
theorem dX12_saysNow_39 : decode cX12_saysNow 39 = .ok (.aload_n 0, 1) := by decide +kernel
theorem dX12_saysNow_40 : decode cX12_saysNow 40 = .ok (.getfield 38, 3) := by decide +kernel
theorem dX12_saysNow_43 : decode cX12_saysNow 43 = .ok (.iload 6, 2) := by decide +kernel
theorem dX12_saysNow_45 : decode cX12_saysNow 45 = .ok (.iaload, 1) := by decide +kernel
theorem dX12_saysNow_46 : decode cX12_saysNow 46 = .ok (.ifCond .le 7, 3) := by decide +kernel
theorem dX12_saysNow_49 : decode cX12_saysNow 49 = .ok (.iconst 1, 1) := by decide +kernel
theorem dX12_saysNow_50 : decode cX12_saysNow 50 = .ok (.goto 4, 3) := by decide +kernel
theorem dX12_saysNow_53 : decode cX12_saysNow 53 = .ok (.iconst 0, 1) := by decide +kernel
theorem dX12_saysNow_54 : decode cX12_saysNow 54 = .ok (.iadd, 1) := by decide +kernel
theorem dX12_saysNow_55 : decode cX12_saysNow 55 = .ok (.istore 5, 2) := by decide +kernel
theorem dX12_saysNow_57 : decode cX12_saysNow 57 = .ok (.iinc 6 1, 3) := by decide +kernel
theorem dX12_saysNow_60 : decode cX12_saysNow 60 = .ok (.goto (-32), 3) := by decide +kernel
theorem dX12_saysNow_63 : decode cX12_saysNow 63 = .ok (.aload_n 0, 1) := by decide +kernel
theorem dX12_saysNow_64 : decode cX12_saysNow 64 = .ok (.getfield 124, 3) := by decide +kernel
theorem dX12_saysNow_67 : decode cX12_saysNow 67 = .ok (.iconst 0, 1) := by decide +kernel
theorem dX12_saysNow_68 : decode cX12_saysNow 68 = .ok (.aload_n 0, 1) := by decide +kernel
theorem dX12_saysNow_69 : decode cX12_saysNow 69 = .ok (.getfield 281, 3) := by decide +kernel
theorem dX12_saysNow_72 : decode cX12_saysNow 72 = .ok (.iastore, 1) := by decide +kernel
theorem dX12_saysNow_73 : decode cX12_saysNow 73 = .ok (.aload_n 0, 1) := by decide +kernel
theorem dX12_saysNow_74 : decode cX12_saysNow 74 = .ok (.getfield 124, 3) := by decide +kernel
theorem dX12_saysNow_77 : decode cX12_saysNow 77 = .ok (.iconst 1, 1) := by decide +kernel
theorem dX12_saysNow_78 : decode cX12_saysNow 78 = .ok (.aload_n 0, 1) := by decide +kernel
theorem dX12_saysNow_79 : decode cX12_saysNow 79 = .ok (.getfield 281, 3) := by decide +kernel
theorem dX12_saysNow_82 : decode cX12_saysNow 82 = .ok (.bipush 24, 2) := by decide +kernel
theorem dX12_saysNow_84 : decode cX12_saysNow 84 = .ok (.idiv, 1) := by decide +kernel
theorem dX12_saysNow_85 : decode cX12_saysNow 85 = .ok (.iastore, 1) := by decide +kernel
theorem dX12_saysNow_86 : decode cX12_saysNow 86 = .ok (.aload_n 0, 1) := by decide +kernel
theorem dX12_saysNow_87 : decode cX12_saysNow 87 = .ok (.getfield 124, 3) := by decide +kernel
theorem dX12_saysNow_90 : decode cX12_saysNow 90 = .ok (.iconst 2, 1) := by decide +kernel
theorem dX12_saysNow_91 : decode cX12_saysNow 91 = .ok (.iload_n 2, 1) := by decide +kernel
theorem dX12_saysNow_92 : decode cX12_saysNow 92 = .ok (.ifCond .ge 7, 3) := by decide +kernel
theorem dX12_saysNow_95 : decode cX12_saysNow 95 = .ok (.iconst 0, 1) := by decide +kernel
theorem dX12_saysNow_96 : decode cX12_saysNow 96 = .ok (.goto 9, 3) := by decide +kernel
theorem dX12_saysNow_99 : decode cX12_saysNow 99 = .ok (.aload_n 0, 1) := by decide +kernel
theorem dX12_saysNow_100 : decode cX12_saysNow 100 = .ok (.getfield 53, 3) := by decide +kernel
theorem dX12_saysNow_103 : decode cX12_saysNow 103 = .ok (.iload_n 2, 1) := by decide +kernel
theorem dX12_saysNow_104 : decode cX12_saysNow 104 = .ok (.iaload, 1) := by decide +kernel
theorem dX12_saysNow_105 : decode cX12_saysNow 105 = .ok (.iastore, 1) := by decide +kernel
theorem dX12_saysNow_106 : decode cX12_saysNow 106 = .ok (.aload_n 0, 1) := by decide +kernel
theorem dX12_saysNow_107 : decode cX12_saysNow 107 = .ok (.getfield 124, 3) := by decide +kernel
theorem dX12_saysNow_110 : decode cX12_saysNow 110 = .ok (.iconst 3, 1) := by decide +kernel
theorem dX12_saysNow_111 : decode cX12_saysNow 111 = .ok (.iload_n 2, 1) := by decide +kernel
theorem dX12_saysNow_112 : decode cX12_saysNow 112 = .ok (.ifCond .ge 7, 3) := by decide +kernel
theorem dX12_saysNow_115 : decode cX12_saysNow 115 = .ok (.iconst 0, 1) := by decide +kernel
theorem dX12_saysNow_116 : decode cX12_saysNow 116 = .ok (.goto 9, 3) := by decide +kernel
theorem dX12_saysNow_119 : decode cX12_saysNow 119 = .ok (.aload_n 0, 1) := by decide +kernel
theorem dX12_saysNow_120 : decode cX12_saysNow 120 = .ok (.getfield 56, 3) := by decide +kernel
theorem dX12_saysNow_123 : decode cX12_saysNow 123 = .ok (.iload_n 2, 1) := by decide +kernel
theorem dX12_saysNow_124 : decode cX12_saysNow 124 = .ok (.iaload, 1) := by decide +kernel
theorem dX12_saysNow_125 : decode cX12_saysNow 125 = .ok (.iastore, 1) := by decide +kernel
theorem dX12_saysNow_126 : decode cX12_saysNow 126 = .ok (.aload_n 0, 1) := by decide +kernel
theorem dX12_saysNow_127 : decode cX12_saysNow 127 = .ok (.getfield 124, 3) := by decide +kernel
theorem dX12_saysNow_130 : decode cX12_saysNow 130 = .ok (.iconst 4, 1) := by decide +kernel
theorem dX12_saysNow_131 : decode cX12_saysNow 131 = .ok (.iload_n 2, 1) := by decide +kernel
theorem dX12_saysNow_132 : decode cX12_saysNow 132 = .ok (.ifCond .ge 7, 3) := by decide +kernel
theorem dX12_saysNow_135 : decode cX12_saysNow 135 = .ok (.iconst 0, 1) := by decide +kernel
theorem dX12_saysNow_136 : decode cX12_saysNow 136 = .ok (.goto 9, 3) := by decide +kernel
theorem dX12_saysNow_139 : decode cX12_saysNow 139 = .ok (.aload_n 0, 1) := by decide +kernel
theorem dX12_saysNow_140 : decode cX12_saysNow 140 = .ok (.getfield 59, 3) := by decide +kernel
theorem dX12_saysNow_143 : decode cX12_saysNow 143 = .ok (.iload_n 2, 1) := by decide +kernel
theorem dX12_saysNow_144 : decode cX12_saysNow 144 = .ok (.iaload, 1) := by decide +kernel
theorem dX12_saysNow_145 : decode cX12_saysNow 145 = .ok (.iastore, 1) := by decide +kernel
theorem dX12_saysNow_146 : decode cX12_saysNow 146 = .ok (.aload_n 0, 1) := by decide +kernel
theorem dX12_saysNow_147 : decode cX12_saysNow 147 = .ok (.getfield 124, 3) := by decide +kernel
theorem dX12_saysNow_150 : decode cX12_saysNow 150 = .ok (.iconst 5, 1) := by decide +kernel
theorem dX12_saysNow_151 : decode cX12_saysNow 151 = .ok (.aload_n 0, 1) := by decide +kernel
theorem dX12_saysNow_152 : decode cX12_saysNow 152 = .ok (.invokevirtual 394, 3) := by decide +kernel
theorem dX12_saysNow_155 : decode cX12_saysNow 155 = .ok (.iastore, 1) := by decide +kernel
theorem dX12_saysNow_156 : decode cX12_saysNow 156 = .ok (.aload_n 0, 1) := by decide +kernel
theorem dX12_saysNow_157 : decode cX12_saysNow 157 = .ok (.getfield 124, 3) := by decide +kernel
theorem dX12_saysNow_160 : decode cX12_saysNow 160 = .ok (.bipush 6, 2) := by decide +kernel
theorem dX12_saysNow_162 : decode cX12_saysNow 162 = .ok (.aload_n 0, 1) := by decide +kernel
theorem dX12_saysNow_163 : decode cX12_saysNow 163 = .ok (.getfield 397, 3) := by decide +kernel
theorem dX12_saysNow_166 : decode cX12_saysNow 166 = .ok (.iastore, 1) := by decide +kernel
theorem dX12_saysNow_167 : decode cX12_saysNow 167 = .ok (.aload_n 0, 1) := by decide +kernel
theorem dX12_saysNow_168 : decode cX12_saysNow 168 = .ok (.getfield 124, 3) := by decide +kernel
theorem dX12_saysNow_171 : decode cX12_saysNow 171 = .ok (.bipush 7, 2) := by decide +kernel
theorem dX12_saysNow_173 : decode cX12_saysNow 173 = .ok (.iload 5, 2) := by decide +kernel
theorem dX12_saysNow_175 : decode cX12_saysNow 175 = .ok (.iastore, 1) := by decide +kernel
theorem dX12_saysNow_176 : decode cX12_saysNow 176 = .ok (.aload_n 0, 1) := by decide +kernel
theorem dX12_saysNow_177 : decode cX12_saysNow 177 = .ok (.iload 4, 2) := by decide +kernel
theorem dX12_saysNow_179 : decode cX12_saysNow 179 = .ok (.invokevirtual 400, 3) := by decide +kernel
theorem dX12_saysNow_182 : decode cX12_saysNow 182 = .ok (.ireturn, 1) := by decide +kernel
theorem dX12_says_0 : decode cX12_says 0 = .ok (.iload_n 1, 1) := by decide +kernel
theorem dX12_says_1 : decode cX12_says 1 = .ok (.invokestatic 370, 3) := by decide +kernel
theorem dX12_says_4 : decode cX12_says 4 = .ok (.ifCond .eq 27, 3) := by decide +kernel
theorem dX12_says_7 : decode cX12_says 7 = .ok (.iload_n 1, 1) := by decide +kernel
theorem dX12_says_8 : decode cX12_says 8 = .ok (.bipush 10, 2) := by decide +kernel
theorem dX12_says_10 : decode cX12_says 10 = .ok (.irem, 1) := by decide +kernel
theorem dX12_says_11 : decode cX12_says 11 = .ok (.iconst 2, 1) := by decide +kernel
theorem dX12_says_12 : decode cX12_says 12 = .ok (.if_icmp .ne 11, 3) := by decide +kernel
theorem dX12_says_15 : decode cX12_says 15 = .ok (.iload_n 2, 1) := by decide +kernel
theorem dX12_says_16 : decode cX12_says 16 = .ok (.iconst (-1), 1) := by decide +kernel
theorem dX12_says_17 : decode cX12_says 17 = .ok (.if_icmp .eq 18, 3) := by decide +kernel
theorem dX12_says_20 : decode cX12_says 20 = .ok (.goto 11, 3) := by decide +kernel
theorem dX12_says_23 : decode cX12_says 23 = .ok (.aload_n 0, 1) := by decide +kernel
theorem dX12_says_24 : decode cX12_says 24 = .ok (.iload_n 2, 1) := by decide +kernel
theorem dX12_says_25 : decode cX12_says 25 = .ok (.invokevirtual 275, 3) := by decide +kernel
theorem dX12_says_28 : decode cX12_says 28 = .ok (.ifCond .ne 7, 3) := by decide +kernel
theorem dX12_says_31 : decode cX12_says 31 = .ok (.ldc_w 267, 3) := by decide +kernel
theorem dX12_says_34 : decode cX12_says 34 = .ok (.ireturn, 1) := by decide +kernel
theorem dX12_says_35 : decode cX12_says 35 = .ok (.aload_n 0, 1) := by decide +kernel
theorem dX12_says_36 : decode cX12_says 36 = .ok (.iload_n 1, 1) := by decide +kernel
theorem dX12_says_37 : decode cX12_says 37 = .ok (.iload_n 2, 1) := by decide +kernel
theorem dX12_says_38 : decode cX12_says 38 = .ok (.iload_n 1, 1) := by decide +kernel
theorem dX12_says_39 : decode cX12_says 39 = .ok (.bipush 10, 2) := by decide +kernel
theorem dX12_says_41 : decode cX12_says 41 = .ok (.irem, 1) := by decide +kernel
theorem dX12_says_42 : decode cX12_says 42 = .ok (.ifCond .ne 7, 3) := by decide +kernel
theorem dX12_says_45 : decode cX12_says 45 = .ok (.iconst 1, 1) := by decide +kernel
theorem dX12_says_46 : decode cX12_says 46 = .ok (.goto 4, 3) := by decide +kernel
theorem dX12_says_49 : decode cX12_says 49 = .ok (.iconst 0, 1) := by decide +kernel
theorem dX12_says_50 : decode cX12_says 50 = .ok (.invokevirtual 403, 3) := by decide +kernel
theorem dX12_says_53 : decode cX12_says 53 = .ok (.ireturn, 1) := by decide +kernel
theorem dX12_move_0 : decode cX12_move 0 = .ok (.iload_n 1, 1) := by decide +kernel
theorem dX12_move_1 : decode cX12_move 1 = .ok (.invokestatic 234, 3) := by decide +kernel
theorem dX12_move_4 : decode cX12_move 4 = .ok (.ifCond .eq 19, 3) := by decide +kernel
theorem dX12_move_7 : decode cX12_move 7 = .ok (.iload_n 2, 1) := by decide +kernel
theorem dX12_move_8 : decode cX12_move 8 = .ok (.aload_n 0, 1) := by decide +kernel
theorem dX12_move_9 : decode cX12_move 9 = .ok (.getfield 281, 3) := by decide +kernel
theorem dX12_move_12 : decode cX12_move 12 = .ok (.iconst 1, 1) := by decide +kernel
theorem dX12_move_13 : decode cX12_move 13 = .ok (.iadd, 1) := by decide +kernel
theorem dX12_move_14 : decode cX12_move 14 = .ok (.sipush 1699, 3) := by decide +kernel
theorem dX12_move_17 : decode cX12_move 17 = .ok (.invokestatic 230, 3) := by decide +kernel
theorem dX12_move_20 : decode cX12_move 20 = .ok (.ifCond .ne 5, 3) := by decide +kernel
theorem dX12_move_23 : decode cX12_move 23 = .ok (.iconst (-1), 1) := by decide +kernel
theorem dX12_move_24 : decode cX12_move 24 = .ok (.ireturn, 1) := by decide +kernel
theorem dX12_move_25 : decode cX12_move 25 = .ok (.aload_n 0, 1) := by decide +kernel
theorem dX12_move_26 : decode cX12_move 26 = .ok (.getfield 406, 3) := by decide +kernel
theorem dX12_move_29 : decode cX12_move 29 = .ok (.bipush 60, 2) := by decide +kernel
theorem dX12_move_31 : decode cX12_move 31 = .ok (.if_icmp .ne 6, 3) := by decide +kernel
theorem dX12_move_34 : decode cX12_move 34 = .ok (.bipush (-3), 2) := by decide +kernel
theorem dX12_move_36 : decode cX12_move 36 = .ok (.ireturn, 1) := by decide +kernel
theorem dX12_move_37 : decode cX12_move 37 = .ok (.aload_n 0, 1) := by decide +kernel
theorem dX12_move_38 : decode cX12_move 38 = .ok (.getfield 130, 3) := by decide +kernel
theorem dX12_move_41 : decode cX12_move 41 = .ok (.aload_n 0, 1) := by decide +kernel
theorem dX12_move_42 : decode cX12_move 42 = .ok (.getfield 406, 3) := by decide +kernel
theorem dX12_move_45 : decode cX12_move 45 = .ok (.iload_n 1, 1) := by decide +kernel
theorem dX12_move_46 : decode cX12_move 46 = .ok (.iastore, 1) := by decide +kernel
theorem dX12_move_47 : decode cX12_move 47 = .ok (.aload_n 0, 1) := by decide +kernel
theorem dX12_move_48 : decode cX12_move 48 = .ok (.getfield 133, 3) := by decide +kernel
theorem dX12_move_51 : decode cX12_move 51 = .ok (.aload_n 0, 1) := by decide +kernel
theorem dX12_move_52 : decode cX12_move 52 = .ok (.getfield 406, 3) := by decide +kernel
theorem dX12_move_55 : decode cX12_move 55 = .ok (.iload_n 2, 1) := by decide +kernel
theorem dX12_move_56 : decode cX12_move 56 = .ok (.iastore, 1) := by decide +kernel
theorem dX12_move_57 : decode cX12_move 57 = .ok (.aload_n 0, 1) := by decide +kernel
theorem dX12_move_58 : decode cX12_move 58 = .ok (.dup, 1) := by decide +kernel
theorem dX12_move_59 : decode cX12_move 59 = .ok (.getfield 406, 3) := by decide +kernel
theorem dX12_move_62 : decode cX12_move 62 = .ok (.iconst 1, 1) := by decide +kernel
theorem dX12_move_63 : decode cX12_move 63 = .ok (.iadd, 1) := by decide +kernel
theorem dX12_move_64 : decode cX12_move 64 = .ok (.putfield 406, 3) := by decide +kernel
theorem dX12_move_67 : decode cX12_move 67 = .ok (.aload_n 0, 1) := by decide +kernel
theorem dX12_move_68 : decode cX12_move 68 = .ok (.getfield 406, 3) := by decide +kernel
theorem dX12_move_71 : decode cX12_move 71 = .ok (.ireturn, 1) := by decide +kernel
theorem dX12_spoons_0 : decode cX12_spoons 0 = .ok (.iload_n 1, 1) := by decide +kernel
theorem dX12_spoons_1 : decode cX12_spoons 1 = .ok (.iconst 0, 1) := by decide +kernel
theorem dX12_spoons_2 : decode cX12_spoons 2 = .ok (.sipush 9999, 3) := by decide +kernel
theorem dX12_spoons_5 : decode cX12_spoons 5 = .ok (.invokestatic 230, 3) := by decide +kernel
theorem dX12_spoons_8 : decode cX12_spoons 8 = .ok (.ifCond .ne 5, 3) := by decide +kernel
theorem dX12_spoons_11 : decode cX12_spoons 11 = .ok (.iconst (-1), 1) := by decide +kernel
theorem dX12_spoons_12 : decode cX12_spoons 12 = .ok (.ireturn, 1) := by decide +kernel
theorem dX12_spoons_13 : decode cX12_spoons 13 = .ok (.aload_n 0, 1) := by decide +kernel
theorem dX12_spoons_14 : decode cX12_spoons 14 = .ok (.getfield 397, 3) := by decide +kernel
theorem dX12_spoons_17 : decode cX12_spoons 17 = .ok (.istore_n 2, 1) := by decide +kernel
theorem dX12_spoons_18 : decode cX12_spoons 18 = .ok (.aload_n 0, 1) := by decide +kernel
theorem dX12_spoons_19 : decode cX12_spoons 19 = .ok (.iload_n 1, 1) := by decide +kernel
theorem dX12_spoons_20 : decode cX12_spoons 20 = .ok (.putfield 397, 3) := by decide +kernel
theorem dX12_spoons_23 : decode cX12_spoons 23 = .ok (.iload_n 2, 1) := by decide +kernel
theorem dX12_spoons_24 : decode cX12_spoons 24 = .ok (.ireturn, 1) := by decide +kernel
theorem dX12_drill_0 : decode cX12_drill 0 = .ok (.iconst 0, 1) := by decide +kernel
theorem dX12_drill_1 : decode cX12_drill 1 = .ok (.istore_n 1, 1) := by decide +kernel
theorem dX12_drill_2 : decode cX12_drill 2 = .ok (.iload_n 1, 1) := by decide +kernel
theorem dX12_drill_3 : decode cX12_drill 3 = .ok (.aload_n 0, 1) := by decide +kernel
theorem dX12_drill_4 : decode cX12_drill 4 = .ok (.getfield 242, 3) := by decide +kernel
theorem dX12_drill_7 : decode cX12_drill 7 = .ok (.if_icmp .ge 16, 3) := by decide +kernel
theorem dX12_drill_10 : decode cX12_drill 10 = .ok (.aload_n 0, 1) := by decide +kernel
theorem dX12_drill_11 : decode cX12_drill 11 = .ok (.getfield 136, 3) := by decide +kernel
theorem dX12_drill_14 : decode cX12_drill 14 = .ok (.iload_n 1, 1) := by decide +kernel
theorem dX12_drill_15 : decode cX12_drill 15 = .ok (.iconst 0, 1) := by decide +kernel
theorem dX12_drill_16 : decode cX12_drill 16 = .ok (.bastore, 1) := by decide +kernel
theorem dX12_drill_17 : decode cX12_drill 17 = .ok (.iinc 1 1, 3) := by decide +kernel
theorem dX12_drill_20 : decode cX12_drill 20 = .ok (.goto (-18), 3) := by decide +kernel
theorem dX12_drill_23 : decode cX12_drill 23 = .ok (.aload_n 0, 1) := by decide +kernel
theorem dX12_drill_24 : decode cX12_drill 24 = .ok (.iconst 2, 1) := by decide +kernel
theorem dX12_drill_25 : decode cX12_drill 25 = .ok (.iconst (-1), 1) := by decide +kernel
theorem dX12_drill_26 : decode cX12_drill 26 = .ok (.iconst 0, 1) := by decide +kernel
theorem dX12_drill_27 : decode cX12_drill 27 = .ok (.invokevirtual 403, 3) := by decide +kernel
theorem dX12_drill_30 : decode cX12_drill 30 = .ok (.ifCond .eq 4, 3) := by decide +kernel
theorem dX12_drill_33 : decode cX12_drill 33 = .ok (.return_, 1) := by decide +kernel
theorem dX12_drill_34 : decode cX12_drill 34 = .ok (.iconst 0, 1) := by decide +kernel
theorem dX12_drill_35 : decode cX12_drill 35 = .ok (.istore_n 1, 1) := by decide +kernel
theorem dX12_drill_36 : decode cX12_drill 36 = .ok (.iload_n 1, 1) := by decide +kernel
theorem dX12_drill_37 : decode cX12_drill 37 = .ok (.iconst 3, 1) := by decide +kernel
theorem dX12_drill_38 : decode cX12_drill 38 = .ok (.if_icmp .ge 79, 3) := by decide +kernel
theorem dX12_drill_41 : decode cX12_drill 41 = .ok (.aload_n 0, 1) := by decide +kernel
theorem dX12_drill_42 : decode cX12_drill 42 = .ok (.getfield 72, 3) := by decide +kernel
theorem dX12_drill_45 : decode cX12_drill 45 = .ok (.iload_n 1, 1) := by decide +kernel
theorem dX12_drill_46 : decode cX12_drill 46 = .ok (.iaload, 1) := by decide +kernel
theorem dX12_drill_47 : decode cX12_drill 47 = .ok (.ifCond .lt 64, 3) := by decide +kernel
theorem dX12_drill_50 : decode cX12_drill 50 = .ok (.aload_n 0, 1) := by decide +kernel
theorem dX12_drill_51 : decode cX12_drill 51 = .ok (.getfield 281, 3) := by decide +kernel
theorem dX12_drill_54 : decode cX12_drill 54 = .ok (.aload_n 0, 1) := by decide +kernel
theorem dX12_drill_55 : decode cX12_drill 55 = .ok (.getfield 75, 3) := by decide +kernel
theorem dX12_drill_58 : decode cX12_drill 58 = .ok (.iload_n 1, 1) := by decide +kernel
theorem dX12_drill_59 : decode cX12_drill 59 = .ok (.iaload, 1) := by decide +kernel
theorem dX12_drill_60 : decode cX12_drill 60 = .ok (.if_icmp .gt 6, 3) := by decide +kernel
theorem dX12_drill_63 : decode cX12_drill 63 = .ok (.goto 48, 3) := by decide +kernel
theorem dX12_drill_66 : decode cX12_drill 66 = .ok (.aload_n 0, 1) := by decide +kernel
theorem dX12_drill_67 : decode cX12_drill 67 = .ok (.getfield 35, 3) := by decide +kernel
theorem dX12_drill_70 : decode cX12_drill 70 = .ok (.aload_n 0, 1) := by decide +kernel
theorem dX12_drill_71 : decode cX12_drill 71 = .ok (.getfield 72, 3) := by decide +kernel
theorem dX12_drill_74 : decode cX12_drill 74 = .ok (.iload_n 1, 1) := by decide +kernel
theorem dX12_drill_75 : decode cX12_drill 75 = .ok (.iaload, 1) := by decide +kernel
theorem dX12_drill_76 : decode cX12_drill 76 = .ok (.dup2, 1) := by decide +kernel
theorem dX12_drill_77 : decode cX12_drill 77 = .ok (.iaload, 1) := by decide +kernel
theorem dX12_drill_78 : decode cX12_drill 78 = .ok (.bipush 60, 2) := by decide +kernel
theorem dX12_drill_80 : decode cX12_drill 80 = .ok (.iadd, 1) := by decide +kernel
theorem dX12_drill_81 : decode cX12_drill 81 = .ok (.iastore, 1) := by decide +kernel
theorem dX12_drill_82 : decode cX12_drill 82 = .ok (.aload_n 0, 1) := by decide +kernel
theorem dX12_drill_83 : decode cX12_drill 83 = .ok (.getfield 136, 3) := by decide +kernel
theorem dX12_drill_86 : decode cX12_drill 86 = .ok (.aload_n 0, 1) := by decide +kernel
theorem dX12_drill_87 : decode cX12_drill 87 = .ok (.getfield 72, 3) := by decide +kernel
theorem dX12_drill_90 : decode cX12_drill 90 = .ok (.iload_n 1, 1) := by decide +kernel
theorem dX12_drill_91 : decode cX12_drill 91 = .ok (.iaload, 1) := by decide +kernel
theorem dX12_drill_92 : decode cX12_drill 92 = .ok (.iconst 1, 1) := by decide +kernel
theorem dX12_drill_93 : decode cX12_drill 93 = .ok (.bastore, 1) := by decide +kernel
theorem dX12_drill_94 : decode cX12_drill 94 = .ok (.aload_n 0, 1) := by decide +kernel
theorem dX12_drill_95 : decode cX12_drill 95 = .ok (.getfield 139, 3) := by decide +kernel
theorem dX12_drill_98 : decode cX12_drill 98 = .ok (.aload_n 0, 1) := by decide +kernel
theorem dX12_drill_99 : decode cX12_drill 99 = .ok (.getfield 72, 3) := by decide +kernel
theorem dX12_drill_102 : decode cX12_drill 102 = .ok (.iload_n 1, 1) := by decide +kernel
theorem dX12_drill_103 : decode cX12_drill 103 = .ok (.iaload, 1) := by decide +kernel
theorem dX12_drill_104 : decode cX12_drill 104 = .ok (.aload_n 0, 1) := by decide +kernel
theorem dX12_drill_105 : decode cX12_drill 105 = .ok (.getfield 69, 3) := by decide +kernel
theorem dX12_drill_108 : decode cX12_drill 108 = .ok (.iload_n 1, 1) := by decide +kernel
theorem dX12_drill_109 : decode cX12_drill 109 = .ok (.iaload, 1) := by decide +kernel
theorem dX12_drill_110 : decode cX12_drill 110 = .ok (.iastore, 1) := by decide +kernel
theorem dX12_drill_111 : decode cX12_drill 111 = .ok (.iinc 1 1, 3) := by decide +kernel
theorem dX12_drill_114 : decode cX12_drill 114 = .ok (.goto (-78), 3) := by decide +kernel
theorem dX12_drill_117 : decode cX12_drill 117 = .ok (.iconst 0, 1) := by decide +kernel
theorem dX12_drill_118 : decode cX12_drill 118 = .ok (.istore_n 1, 1) := by decide +kernel
theorem dX12_drill_119 : decode cX12_drill 119 = .ok (.iload_n 1, 1) := by decide +kernel
theorem dX12_drill_120 : decode cX12_drill 120 = .ok (.aload_n 0, 1) := by decide +kernel
theorem dX12_drill_121 : decode cX12_drill 121 = .ok (.getfield 242, 3) := by decide +kernel
theorem dX12_drill_124 : decode cX12_drill 124 = .ok (.if_icmp .ge 29, 3) := by decide +kernel
theorem dX12_drill_127 : decode cX12_drill 127 = .ok (.aload_n 0, 1) := by decide +kernel
theorem dX12_drill_128 : decode cX12_drill 128 = .ok (.getfield 136, 3) := by decide +kernel
theorem dX12_drill_131 : decode cX12_drill 131 = .ok (.iload_n 1, 1) := by decide +kernel
theorem dX12_drill_132 : decode cX12_drill 132 = .ok (.baload, 1) := by decide +kernel
theorem dX12_drill_133 : decode cX12_drill 133 = .ok (.ifCond .eq 14, 3) := by decide +kernel
theorem dX12_drill_136 : decode cX12_drill 136 = .ok (.aload_n 0, 1) := by decide +kernel
theorem dX12_drill_137 : decode cX12_drill 137 = .ok (.iload_n 1, 1) := by decide +kernel
theorem dX12_drill_138 : decode cX12_drill 138 = .ok (.aload_n 0, 1) := by decide +kernel
theorem dX12_drill_139 : decode cX12_drill 139 = .ok (.getfield 139, 3) := by decide +kernel
theorem dX12_drill_142 : decode cX12_drill 142 = .ok (.iload_n 1, 1) := by decide +kernel
theorem dX12_drill_143 : decode cX12_drill 143 = .ok (.iaload, 1) := by decide +kernel
theorem dX12_drill_144 : decode cX12_drill 144 = .ok (.invokevirtual 409, 3) := by decide +kernel
theorem dX12_drill_147 : decode cX12_drill 147 = .ok (.iinc 1 1, 3) := by decide +kernel
theorem dX12_drill_150 : decode cX12_drill 150 = .ok (.goto (-31), 3) := by decide +kernel
theorem dX12_drill_153 : decode cX12_drill 153 = .ok (.return_, 1) := by decide +kernel
theorem dX12_eat_0 : decode cX12_eat 0 = .ok (.iconst 0, 1) := by decide +kernel
theorem dX12_eat_1 : decode cX12_eat 1 = .ok (.istore_n 1, 1) := by decide +kernel
theorem dX12_eat_2 : decode cX12_eat 2 = .ok (.iload_n 1, 1) := by decide +kernel
theorem dX12_eat_3 : decode cX12_eat 3 = .ok (.aload_n 0, 1) := by decide +kernel
theorem dX12_eat_4 : decode cX12_eat 4 = .ok (.getfield 242, 3) := by decide +kernel
theorem dX12_eat_7 : decode cX12_eat 7 = .ok (.if_icmp .ge 99, 3) := by decide +kernel
theorem dX12_eat_10 : decode cX12_eat 10 = .ok (.aload_n 0, 1) := by decide +kernel
theorem dX12_eat_11 : decode cX12_eat 11 = .ok (.getfield 62, 3) := by decide +kernel
theorem dX12_eat_14 : decode cX12_eat 14 = .ok (.iload_n 1, 1) := by decide +kernel
theorem dX12_eat_15 : decode cX12_eat 15 = .ok (.baload, 1) := by decide +kernel
theorem dX12_eat_16 : decode cX12_eat 16 = .ok (.ifCond .ne 6, 3) := by decide +kernel
theorem dX12_eat_19 : decode cX12_eat 19 = .ok (.goto 81, 3) := by decide +kernel
theorem dX12_eat_22 : decode cX12_eat 22 = .ok (.aload_n 0, 1) := by decide +kernel
theorem dX12_eat_23 : decode cX12_eat 23 = .ok (.bipush 10, 2) := by decide +kernel
theorem dX12_eat_25 : decode cX12_eat 25 = .ok (.iload_n 1, 1) := by decide +kernel
theorem dX12_eat_26 : decode cX12_eat 26 = .ok (.iconst 1, 1) := by decide +kernel
theorem dX12_eat_27 : decode cX12_eat 27 = .ok (.invokevirtual 403, 3) := by decide +kernel
theorem dX12_eat_30 : decode cX12_eat 30 = .ok (.iconst 0, 1) := by decide +kernel
theorem dX12_eat_31 : decode cX12_eat 31 = .ok (.bipush 9, 2) := by decide +kernel
theorem dX12_eat_33 : decode cX12_eat 33 = .ok (.invokestatic 284, 3) := by decide +kernel
theorem dX12_eat_36 : decode cX12_eat 36 = .ok (.istore_n 2, 1) := by decide +kernel
theorem dX12_eat_37 : decode cX12_eat 37 = .ok (.iload_n 2, 1) := by decide +kernel
theorem dX12_eat_38 : decode cX12_eat 38 = .ok (.aload_n 0, 1) := by decide +kernel
theorem dX12_eat_39 : decode cX12_eat 39 = .ok (.getfield 397, 3) := by decide +kernel
theorem dX12_eat_42 : decode cX12_eat 42 = .ok (.if_icmp .ge 7, 3) := by decide +kernel
theorem dX12_eat_45 : decode cX12_eat 45 = .ok (.iload_n 2, 1) := by decide +kernel
theorem dX12_eat_46 : decode cX12_eat 46 = .ok (.goto 7, 3) := by decide +kernel
theorem dX12_eat_49 : decode cX12_eat 49 = .ok (.aload_n 0, 1) := by decide +kernel
theorem dX12_eat_50 : decode cX12_eat 50 = .ok (.getfield 397, 3) := by decide +kernel
theorem dX12_eat_53 : decode cX12_eat 53 = .ok (.istore_n 2, 1) := by decide +kernel
theorem dX12_eat_54 : decode cX12_eat 54 = .ok (.aload_n 0, 1) := by decide +kernel
theorem dX12_eat_55 : decode cX12_eat 55 = .ok (.dup, 1) := by decide +kernel
theorem dX12_eat_56 : decode cX12_eat 56 = .ok (.getfield 397, 3) := by decide +kernel
theorem dX12_eat_59 : decode cX12_eat 59 = .ok (.iload_n 2, 1) := by decide +kernel
theorem dX12_eat_60 : decode cX12_eat 60 = .ok (.isub, 1) := by decide +kernel
theorem dX12_eat_61 : decode cX12_eat 61 = .ok (.putfield 397, 3) := by decide +kernel
theorem dX12_eat_64 : decode cX12_eat 64 = .ok (.aload_n 0, 1) := by decide +kernel
theorem dX12_eat_65 : decode cX12_eat 65 = .ok (.dup, 1) := by decide +kernel
theorem dX12_eat_66 : decode cX12_eat 66 = .ok (.getfield 412, 3) := by decide +kernel
theorem dX12_eat_69 : decode cX12_eat 69 = .ok (.iload_n 2, 1) := by decide +kernel
theorem dX12_eat_70 : decode cX12_eat 70 = .ok (.iadd, 1) := by decide +kernel
theorem dX12_eat_71 : decode cX12_eat 71 = .ok (.putfield 412, 3) := by decide +kernel
theorem dX12_eat_74 : decode cX12_eat 74 = .ok (.aload_n 0, 1) := by decide +kernel
theorem dX12_eat_75 : decode cX12_eat 75 = .ok (.getfield 53, 3) := by decide +kernel
theorem dX12_eat_78 : decode cX12_eat 78 = .ok (.iload_n 1, 1) := by decide +kernel
theorem dX12_eat_79 : decode cX12_eat 79 = .ok (.aload_n 0, 1) := by decide +kernel
theorem dX12_eat_80 : decode cX12_eat 80 = .ok (.getfield 53, 3) := by decide +kernel
theorem dX12_eat_83 : decode cX12_eat 83 = .ok (.iload_n 1, 1) := by decide +kernel
theorem dX12_eat_84 : decode cX12_eat 84 = .ok (.iaload, 1) := by decide +kernel
theorem dX12_eat_85 : decode cX12_eat 85 = .ok (.bipush 6, 2) := by decide +kernel
theorem dX12_eat_87 : decode cX12_eat 87 = .ok (.isub, 1) := by decide +kernel
theorem dX12_eat_88 : decode cX12_eat 88 = .ok (.iconst 2, 1) := by decide +kernel
theorem dX12_eat_89 : decode cX12_eat 89 = .ok (.iload_n 2, 1) := by decide +kernel
theorem dX12_eat_90 : decode cX12_eat 90 = .ok (.imul, 1) := by decide +kernel
theorem dX12_eat_91 : decode cX12_eat 91 = .ok (.iadd, 1) := by decide +kernel
theorem dX12_eat_92 : decode cX12_eat 92 = .ok (.iconst 0, 1) := by decide +kernel
theorem dX12_eat_93 : decode cX12_eat 93 = .ok (.sipush 999, 3) := by decide +kernel
theorem dX12_eat_96 : decode cX12_eat 96 = .ok (.invokestatic 284, 3) := by decide +kernel
theorem dX12_eat_99 : decode cX12_eat 99 = .ok (.iastore, 1) := by decide +kernel
theorem dX12_eat_100 : decode cX12_eat 100 = .ok (.iinc 1 1, 3) := by decide +kernel
theorem dX12_eat_103 : decode cX12_eat 103 = .ok (.goto (-101), 3) := by decide +kernel
theorem dX12_eat_106 : decode cX12_eat 106 = .ok (.return_, 1) := by decide +kernel
theorem dX12_hours_0 : decode cX12_hours 0 = .ok (.iload_n 1, 1) := by decide +kernel
theorem dX12_hours_1 : decode cX12_hours 1 = .ok (.iconst 1, 1) := by decide +kernel
theorem dX12_hours_2 : decode cX12_hours 2 = .ok (.bipush 48, 2) := by decide +kernel
theorem dX12_hours_4 : decode cX12_hours 4 = .ok (.invokestatic 230, 3) := by decide +kernel
theorem dX12_hours_7 : decode cX12_hours 7 = .ok (.ifCond .eq 15, 3) := by decide +kernel
theorem dX12_hours_10 : decode cX12_hours 10 = .ok (.aload_n 0, 1) := by decide +kernel
theorem dX12_hours_11 : decode cX12_hours 11 = .ok (.getfield 281, 3) := by decide +kernel
theorem dX12_hours_14 : decode cX12_hours 14 = .ok (.iload_n 1, 1) := by decide +kernel
theorem dX12_hours_15 : decode cX12_hours 15 = .ok (.iadd, 1) := by decide +kernel
theorem dX12_hours_16 : decode cX12_hours 16 = .ok (.sipush 1699, 3) := by decide +kernel
theorem dX12_hours_19 : decode cX12_hours 19 = .ok (.if_icmp .le 5, 3) := by decide +kernel
theorem dX12_hours_22 : decode cX12_hours 22 = .ok (.iconst (-1), 1) := by decide +kernel
theorem dX12_hours_23 : decode cX12_hours 23 = .ok (.ireturn, 1) := by decide +kernel
theorem dX12_hours_24 : decode cX12_hours 24 = .ok (.iconst 0, 1) := by decide +kernel
theorem dX12_hours_25 : decode cX12_hours 25 = .ok (.istore_n 2, 1) := by decide +kernel
theorem dX12_hours_26 : decode cX12_hours 26 = .ok (.iload_n 2, 1) := by decide +kernel
theorem dX12_hours_27 : decode cX12_hours 27 = .ok (.iload_n 1, 1) := by decide +kernel
theorem dX12_hours_28 : decode cX12_hours 28 = .ok (.if_icmp .ge 152, 3) := by decide +kernel
theorem dX12_hours_31 : decode cX12_hours 31 = .ok (.aload_n 0, 1) := by decide +kernel
theorem dX12_hours_32 : decode cX12_hours 32 = .ok (.dup, 1) := by decide +kernel
theorem dX12_hours_33 : decode cX12_hours 33 = .ok (.getfield 281, 3) := by decide +kernel
theorem dX12_hours_36 : decode cX12_hours 36 = .ok (.iconst 1, 1) := by decide +kernel
theorem dX12_hours_37 : decode cX12_hours 37 = .ok (.iadd, 1) := by decide +kernel
theorem dX12_hours_38 : decode cX12_hours 38 = .ok (.putfield 281, 3) := by decide +kernel
theorem dX12_hours_41 : decode cX12_hours 41 = .ok (.aload_n 0, 1) := by decide +kernel
theorem dX12_hours_42 : decode cX12_hours 42 = .ok (.invokevirtual 415, 3) := by decide +kernel
theorem dX12_hours_45 : decode cX12_hours 45 = .ok (.aload_n 0, 1) := by decide +kernel
theorem dX12_hours_46 : decode cX12_hours 46 = .ok (.invokevirtual 418, 3) := by decide +kernel
theorem dX12_hours_49 : decode cX12_hours 49 = .ok (.aload_n 0, 1) := by decide +kernel
theorem dX12_hours_50 : decode cX12_hours 50 = .ok (.getfield 281, 3) := by decide +kernel
theorem dX12_hours_53 : decode cX12_hours 53 = .ok (.bipush 24, 2) := by decide +kernel
theorem dX12_hours_55 : decode cX12_hours 55 = .ok (.irem, 1) := by decide +kernel
theorem dX12_hours_56 : decode cX12_hours 56 = .ok (.ifCond .ne 7, 3) := by decide +kernel
theorem dX12_hours_59 : decode cX12_hours 59 = .ok (.aload_n 0, 1) := by decide +kernel
theorem dX12_hours_60 : decode cX12_hours 60 = .ok (.invokevirtual 421, 3) := by decide +kernel
theorem dX12_hours_63 : decode cX12_hours 63 = .ok (.iconst 0, 1) := by decide +kernel
theorem dX12_hours_64 : decode cX12_hours 64 = .ok (.istore_n 3, 1) := by decide +kernel
theorem dX12_hours_65 : decode cX12_hours 65 = .ok (.iload_n 3, 1) := by decide +kernel
theorem dX12_hours_66 : decode cX12_hours 66 = .ok (.aload_n 0, 1) := by decide +kernel
theorem dX12_hours_67 : decode cX12_hours 67 = .ok (.getfield 406, 3) := by decide +kernel
theorem dX12_hours_70 : decode cX12_hours 70 = .ok (.if_icmp .ge 104, 3) := by decide +kernel
theorem dX12_hours_73 : decode cX12_hours 73 = .ok (.aload_n 0, 1) := by decide +kernel
theorem dX12_hours_74 : decode cX12_hours 74 = .ok (.getfield 133, 3) := by decide +kernel
theorem dX12_hours_77 : decode cX12_hours 77 = .ok (.iload_n 3, 1) := by decide +kernel
theorem dX12_hours_78 : decode cX12_hours 78 = .ok (.iaload, 1) := by decide +kernel
theorem dX12_hours_79 : decode cX12_hours 79 = .ok (.aload_n 0, 1) := by decide +kernel
theorem dX12_hours_80 : decode cX12_hours 80 = .ok (.getfield 281, 3) := by decide +kernel
theorem dX12_hours_83 : decode cX12_hours 83 = .ok (.if_icmp .eq 6, 3) := by decide +kernel
theorem dX12_hours_86 : decode cX12_hours 86 = .ok (.goto 82, 3) := by decide +kernel
theorem dX12_hours_89 : decode cX12_hours 89 = .ok (.aload_n 0, 1) := by decide +kernel
theorem dX12_hours_90 : decode cX12_hours 90 = .ok (.getfield 130, 3) := by decide +kernel
theorem dX12_hours_93 : decode cX12_hours 93 = .ok (.iload_n 3, 1) := by decide +kernel
theorem dX12_hours_94 : decode cX12_hours 94 = .ok (.iaload, 1) := by decide +kernel
theorem dX12_hours_95 : decode cX12_hours 95 = .ok (.invokestatic 238, 3) := by decide +kernel
theorem dX12_hours_98 : decode cX12_hours 98 = .ok (.istore 4, 2) := by decide +kernel
theorem dX12_hours_100 : decode cX12_hours 100 = .ok (.aload_n 0, 1) := by decide +kernel
theorem dX12_hours_101 : decode cX12_hours 101 = .ok (.getfield 13, 3) := by decide +kernel
theorem dX12_hours_104 : decode cX12_hours 104 = .ok (.iload 4, 2) := by decide +kernel
theorem dX12_hours_106 : decode cX12_hours 106 = .ok (.iconst 0, 1) := by decide +kernel
theorem dX12_hours_107 : decode cX12_hours 107 = .ok (.bastore, 1) := by decide +kernel
theorem dX12_hours_108 : decode cX12_hours 108 = .ok (.aload_n 0, 1) := by decide +kernel
theorem dX12_hours_109 : decode cX12_hours 109 = .ok (.getfield 7, 3) := by decide +kernel
theorem dX12_hours_112 : decode cX12_hours 112 = .ok (.iload 4, 2) := by decide +kernel
theorem dX12_hours_114 : decode cX12_hours 114 = .ok (.bipush 6, 2) := by decide +kernel
theorem dX12_hours_116 : decode cX12_hours 116 = .ok (.iastore, 1) := by decide +kernel
theorem dX12_hours_117 : decode cX12_hours 117 = .ok (.aload_n 0, 1) := by decide +kernel
theorem dX12_hours_118 : decode cX12_hours 118 = .ok (.getfield 65, 3) := by decide +kernel
theorem dX12_hours_121 : decode cX12_hours 121 = .ok (.ifCond .lt 47, 3) := by decide +kernel
theorem dX12_hours_124 : decode cX12_hours 124 = .ok (.aload_n 0, 1) := by decide +kernel
theorem dX12_hours_125 : decode cX12_hours 125 = .ok (.getfield 130, 3) := by decide +kernel
theorem dX12_hours_128 : decode cX12_hours 128 = .ok (.iload_n 3, 1) := by decide +kernel
theorem dX12_hours_129 : decode cX12_hours 129 = .ok (.iaload, 1) := by decide +kernel
theorem dX12_hours_130 : decode cX12_hours 130 = .ok (.bipush 100, 2) := by decide +kernel
theorem dX12_hours_132 : decode cX12_hours 132 = .ok (.irem, 1) := by decide +kernel
theorem dX12_hours_133 : decode cX12_hours 133 = .ok (.aload_n 0, 1) := by decide +kernel
theorem dX12_hours_134 : decode cX12_hours 134 = .ok (.getfield 264, 3) := by decide +kernel
theorem dX12_hours_137 : decode cX12_hours 137 = .ok (.if_icmp .ne 31, 3) := by decide +kernel
theorem dX12_hours_140 : decode cX12_hours 140 = .ok (.aload_n 0, 1) := by decide +kernel
theorem dX12_hours_141 : decode cX12_hours 141 = .ok (.getfield 130, 3) := by decide +kernel
theorem dX12_hours_144 : decode cX12_hours 144 = .ok (.iload_n 3, 1) := by decide +kernel
theorem dX12_hours_145 : decode cX12_hours 145 = .ok (.iaload, 1) := by decide +kernel
theorem dX12_hours_146 : decode cX12_hours 146 = .ok (.bipush 100, 2) := by decide +kernel
theorem dX12_hours_148 : decode cX12_hours 148 = .ok (.idiv, 1) := by decide +kernel
theorem dX12_hours_149 : decode cX12_hours 149 = .ok (.aload_n 0, 1) := by decide +kernel
theorem dX12_hours_150 : decode cX12_hours 150 = .ok (.getfield 258, 3) := by decide +kernel
theorem dX12_hours_153 : decode cX12_hours 153 = .ok (.aload_n 0, 1) := by decide +kernel
theorem dX12_hours_154 : decode cX12_hours 154 = .ok (.getfield 261, 3) := by decide +kernel
theorem dX12_hours_157 : decode cX12_hours 157 = .ok (.invokestatic 230, 3) := by decide +kernel
theorem dX12_hours_160 : decode cX12_hours 160 = .ok (.ifCond .eq 8, 3) := by decide +kernel
theorem dX12_hours_163 : decode cX12_hours 163 = .ok (.aload_n 0, 1) := by decide +kernel
theorem dX12_hours_164 : decode cX12_hours 164 = .ok (.iconst 1, 1) := by decide +kernel
theorem dX12_hours_165 : decode cX12_hours 165 = .ok (.putfield 271, 3) := by decide +kernel
theorem dX12_hours_168 : decode cX12_hours 168 = .ok (.iinc 3 1, 3) := by decide +kernel
theorem dX12_hours_171 : decode cX12_hours 171 = .ok (.goto (-106), 3) := by decide +kernel
theorem dX12_hours_174 : decode cX12_hours 174 = .ok (.iinc 2 1, 3) := by decide +kernel
theorem dX12_hours_177 : decode cX12_hours 177 = .ok (.goto (-151), 3) := by decide +kernel
theorem dX12_hours_180 : decode cX12_hours 180 = .ok (.aload_n 0, 1) := by decide +kernel
theorem dX12_hours_181 : decode cX12_hours 181 = .ok (.getfield 281, 3) := by decide +kernel
theorem dX12_hours_184 : decode cX12_hours 184 = .ok (.ireturn, 1) := by decide +kernel
theorem dX12_lastsBy_0 : decode cX12_lastsBy 0 = .ok (.iconst 0, 1) := by decide +kernel
theorem dX12_lastsBy_1 : decode cX12_lastsBy 1 = .ok (.istore_n 3, 1) := by decide +kernel
theorem dX12_lastsBy_2 : decode cX12_lastsBy 2 = .ok (.iload_n 3, 1) := by decide +kernel
theorem dX12_lastsBy_3 : decode cX12_lastsBy 3 = .ok (.aload_n 0, 1) := by decide +kernel
theorem dX12_lastsBy_4 : decode cX12_lastsBy 4 = .ok (.getfield 242, 3) := by decide +kernel
theorem dX12_lastsBy_7 : decode cX12_lastsBy 7 = .ok (.if_icmp .ge 21, 3) := by decide +kernel
theorem dX12_lastsBy_10 : decode cX12_lastsBy 10 = .ok (.aload_n 0, 1) := by decide +kernel
theorem dX12_lastsBy_11 : decode cX12_lastsBy 11 = .ok (.getfield 142, 3) := by decide +kernel
theorem dX12_lastsBy_14 : decode cX12_lastsBy 14 = .ok (.iload_n 3, 1) := by decide +kernel
theorem dX12_lastsBy_15 : decode cX12_lastsBy 15 = .ok (.aload_n 0, 1) := by decide +kernel
theorem dX12_lastsBy_16 : decode cX12_lastsBy 16 = .ok (.getfield 53, 3) := by decide +kernel
theorem dX12_lastsBy_19 : decode cX12_lastsBy 19 = .ok (.iload_n 3, 1) := by decide +kernel
theorem dX12_lastsBy_20 : decode cX12_lastsBy 20 = .ok (.iaload, 1) := by decide +kernel
theorem dX12_lastsBy_21 : decode cX12_lastsBy 21 = .ok (.iastore, 1) := by decide +kernel
theorem dX12_lastsBy_22 : decode cX12_lastsBy 22 = .ok (.iinc 3 1, 3) := by decide +kernel
theorem dX12_lastsBy_25 : decode cX12_lastsBy 25 = .ok (.goto (-23), 3) := by decide +kernel
theorem dX12_lastsBy_28 : decode cX12_lastsBy 28 = .ok (.aload_n 0, 1) := by decide +kernel
theorem dX12_lastsBy_29 : decode cX12_lastsBy 29 = .ok (.getfield 397, 3) := by decide +kernel
theorem dX12_lastsBy_32 : decode cX12_lastsBy 32 = .ok (.istore_n 3, 1) := by decide +kernel
theorem dX12_lastsBy_33 : decode cX12_lastsBy 33 = .ok (.iconst 1, 1) := by decide +kernel
theorem dX12_lastsBy_34 : decode cX12_lastsBy 34 = .ok (.istore 4, 2) := by decide +kernel
theorem dX12_lastsBy_36 : decode cX12_lastsBy 36 = .ok (.iload 4, 2) := by decide +kernel
theorem dX12_lastsBy_38 : decode cX12_lastsBy 38 = .ok (.bipush 60, 2) := by decide +kernel
theorem dX12_lastsBy_40 : decode cX12_lastsBy 40 = .ok (.if_icmp .gt 122, 3) := by decide +kernel
theorem dX12_lastsBy_43 : decode cX12_lastsBy 43 = .ok (.iconst 1, 1) := by decide +kernel
theorem dX12_lastsBy_44 : decode cX12_lastsBy 44 = .ok (.istore 5, 2) := by decide +kernel
theorem dX12_lastsBy_46 : decode cX12_lastsBy 46 = .ok (.iconst 0, 1) := by decide +kernel
theorem dX12_lastsBy_47 : decode cX12_lastsBy 47 = .ok (.istore 6, 2) := by decide +kernel
theorem dX12_lastsBy_49 : decode cX12_lastsBy 49 = .ok (.iload 6, 2) := by decide +kernel
theorem dX12_lastsBy_51 : decode cX12_lastsBy 51 = .ok (.aload_n 0, 1) := by decide +kernel
theorem dX12_lastsBy_52 : decode cX12_lastsBy 52 = .ok (.getfield 242, 3) := by decide +kernel
theorem dX12_lastsBy_55 : decode cX12_lastsBy 55 = .ok (.if_icmp .ge 91, 3) := by decide +kernel
theorem dX12_lastsBy_58 : decode cX12_lastsBy 58 = .ok (.aload_n 0, 1) := by decide +kernel
theorem dX12_lastsBy_59 : decode cX12_lastsBy 59 = .ok (.getfield 62, 3) := by decide +kernel
theorem dX12_lastsBy_62 : decode cX12_lastsBy 62 = .ok (.iload 6, 2) := by decide +kernel
theorem dX12_lastsBy_64 : decode cX12_lastsBy 64 = .ok (.baload, 1) := by decide +kernel
theorem dX12_lastsBy_65 : decode cX12_lastsBy 65 = .ok (.ifCond .ne 6, 3) := by decide +kernel
theorem dX12_lastsBy_68 : decode cX12_lastsBy 68 = .ok (.goto 72, 3) := by decide +kernel
theorem dX12_lastsBy_71 : decode cX12_lastsBy 71 = .ok (.iload_n 2, 1) := by decide +kernel
theorem dX12_lastsBy_72 : decode cX12_lastsBy 72 = .ok (.iload_n 3, 1) := by decide +kernel
theorem dX12_lastsBy_73 : decode cX12_lastsBy 73 = .ok (.if_icmp .ge 7, 3) := by decide +kernel
theorem dX12_lastsBy_76 : decode cX12_lastsBy 76 = .ok (.iload_n 2, 1) := by decide +kernel
theorem dX12_lastsBy_77 : decode cX12_lastsBy 77 = .ok (.goto 4, 3) := by decide +kernel
theorem dX12_lastsBy_80 : decode cX12_lastsBy 80 = .ok (.iload_n 3, 1) := by decide +kernel
theorem dX12_lastsBy_81 : decode cX12_lastsBy 81 = .ok (.istore 7, 2) := by decide +kernel
theorem dX12_lastsBy_83 : decode cX12_lastsBy 83 = .ok (.iload_n 3, 1) := by decide +kernel
theorem dX12_lastsBy_84 : decode cX12_lastsBy 84 = .ok (.iload 7, 2) := by decide +kernel
theorem dX12_lastsBy_86 : decode cX12_lastsBy 86 = .ok (.isub, 1) := by decide +kernel
theorem dX12_lastsBy_87 : decode cX12_lastsBy 87 = .ok (.istore_n 3, 1) := by decide +kernel
theorem dX12_lastsBy_88 : decode cX12_lastsBy 88 = .ok (.aload_n 0, 1) := by decide +kernel
theorem dX12_lastsBy_89 : decode cX12_lastsBy 89 = .ok (.getfield 142, 3) := by decide +kernel
theorem dX12_lastsBy_92 : decode cX12_lastsBy 92 = .ok (.iload 6, 2) := by decide +kernel
theorem dX12_lastsBy_94 : decode cX12_lastsBy 94 = .ok (.aload_n 0, 1) := by decide +kernel
theorem dX12_lastsBy_95 : decode cX12_lastsBy 95 = .ok (.getfield 142, 3) := by decide +kernel
theorem dX12_lastsBy_98 : decode cX12_lastsBy 98 = .ok (.iload 6, 2) := by decide +kernel
theorem dX12_lastsBy_100 : decode cX12_lastsBy 100 = .ok (.iaload, 1) := by decide +kernel
theorem dX12_lastsBy_101 : decode cX12_lastsBy 101 = .ok (.bipush 6, 2) := by decide +kernel
theorem dX12_lastsBy_103 : decode cX12_lastsBy 103 = .ok (.isub, 1) := by decide +kernel
theorem dX12_lastsBy_104 : decode cX12_lastsBy 104 = .ok (.iconst 2, 1) := by decide +kernel
theorem dX12_lastsBy_105 : decode cX12_lastsBy 105 = .ok (.iload 7, 2) := by decide +kernel
theorem dX12_lastsBy_107 : decode cX12_lastsBy 107 = .ok (.imul, 1) := by decide +kernel
theorem dX12_lastsBy_108 : decode cX12_lastsBy 108 = .ok (.iadd, 1) := by decide +kernel
theorem dX12_lastsBy_109 : decode cX12_lastsBy 109 = .ok (.iconst 0, 1) := by decide +kernel
theorem dX12_lastsBy_110 : decode cX12_lastsBy 110 = .ok (.sipush 999, 3) := by decide +kernel
theorem dX12_lastsBy_113 : decode cX12_lastsBy 113 = .ok (.invokestatic 284, 3) := by decide +kernel
theorem dX12_lastsBy_116 : decode cX12_lastsBy 116 = .ok (.iastore, 1) := by decide +kernel
theorem dX12_lastsBy_117 : decode cX12_lastsBy 117 = .ok (.iload 5, 2) := by decide +kernel
theorem dX12_lastsBy_119 : decode cX12_lastsBy 119 = .ok (.ifCond .eq 18, 3) := by decide +kernel
theorem dX12_lastsBy_122 : decode cX12_lastsBy 122 = .ok (.aload_n 0, 1) := by decide +kernel
theorem dX12_lastsBy_123 : decode cX12_lastsBy 123 = .ok (.getfield 142, 3) := by decide +kernel
theorem dX12_lastsBy_126 : decode cX12_lastsBy 126 = .ok (.iload 6, 2) := by decide +kernel
theorem dX12_lastsBy_128 : decode cX12_lastsBy 128 = .ok (.iaload, 1) := by decide +kernel
theorem dX12_lastsBy_129 : decode cX12_lastsBy 129 = .ok (.iload_n 1, 1) := by decide +kernel
theorem dX12_lastsBy_130 : decode cX12_lastsBy 130 = .ok (.if_icmp .le 7, 3) := by decide +kernel
theorem dX12_lastsBy_133 : decode cX12_lastsBy 133 = .ok (.iconst 1, 1) := by decide +kernel
theorem dX12_lastsBy_134 : decode cX12_lastsBy 134 = .ok (.goto 4, 3) := by decide +kernel
theorem dX12_lastsBy_137 : decode cX12_lastsBy 137 = .ok (.iconst 0, 1) := by decide +kernel
theorem dX12_lastsBy_138 : decode cX12_lastsBy 138 = .ok (.istore 5, 2) := by decide +kernel
theorem dX12_lastsBy_140 : decode cX12_lastsBy 140 = .ok (.iinc 6 1, 3) := by decide +kernel
theorem dX12_lastsBy_143 : decode cX12_lastsBy 143 = .ok (.goto (-94), 3) := by decide +kernel
theorem dX12_lastsBy_146 : decode cX12_lastsBy 146 = .ok (.iload 5, 2) := by decide +kernel
theorem dX12_lastsBy_148 : decode cX12_lastsBy 148 = .ok (.ifCond .ne 8, 3) := by decide +kernel
theorem dX12_lastsBy_151 : decode cX12_lastsBy 151 = .ok (.iload 4, 2) := by decide +kernel
theorem dX12_lastsBy_153 : decode cX12_lastsBy 153 = .ok (.iconst 1, 1) := by decide +kernel
theorem dX12_lastsBy_154 : decode cX12_lastsBy 154 = .ok (.isub, 1) := by decide +kernel
theorem dX12_lastsBy_155 : decode cX12_lastsBy 155 = .ok (.ireturn, 1) := by decide +kernel
theorem dX12_lastsBy_156 : decode cX12_lastsBy 156 = .ok (.iinc 4 1, 3) := by decide +kernel
theorem dX12_lastsBy_159 : decode cX12_lastsBy 159 = .ok (.goto (-123), 3) := by decide +kernel
theorem dX12_lastsBy_162 : decode cX12_lastsBy 162 = .ok (.bipush 60, 2) := by decide +kernel
theorem dX12_lastsBy_164 : decode cX12_lastsBy 164 = .ok (.ireturn, 1) := by decide +kernel
theorem dX12_last_0 : decode cX12_last 0 = .ok (.iload_n 1, 1) := by decide +kernel
theorem dX12_last_1 : decode cX12_last 1 = .ok (.iconst 0, 1) := by decide +kernel
theorem dX12_last_2 : decode cX12_last 2 = .ok (.sipush 999, 3) := by decide +kernel
theorem dX12_last_5 : decode cX12_last 5 = .ok (.invokestatic 230, 3) := by decide +kernel
theorem dX12_last_8 : decode cX12_last 8 = .ok (.ifCond .eq 13, 3) := by decide +kernel
theorem dX12_last_11 : decode cX12_last 11 = .ok (.iload_n 2, 1) := by decide +kernel
theorem dX12_last_12 : decode cX12_last 12 = .ok (.iconst 0, 1) := by decide +kernel
theorem dX12_last_13 : decode cX12_last 13 = .ok (.bipush 9, 2) := by decide +kernel
theorem dX12_last_15 : decode cX12_last 15 = .ok (.invokestatic 230, 3) := by decide +kernel
theorem dX12_last_18 : decode cX12_last 18 = .ok (.ifCond .ne 5, 3) := by decide +kernel
theorem dX12_last_21 : decode cX12_last 21 = .ok (.iconst (-1), 1) := by decide +kernel
theorem dX12_last_22 : decode cX12_last 22 = .ok (.ireturn, 1) := by decide +kernel
theorem dX12_last_23 : decode cX12_last 23 = .ok (.aload_n 0, 1) := by decide +kernel
theorem dX12_last_24 : decode cX12_last 24 = .ok (.invokevirtual 394, 3) := by decide +kernel
