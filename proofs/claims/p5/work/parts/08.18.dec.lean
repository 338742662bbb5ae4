theorem dX12_aimed_20 : decode cX12_aimed 20 = .ok (.iconst 1, 1) := by decide +kernel
theorem dX12_aimed_21 : decode cX12_aimed 21 = .ok (.iconst 2, 1) := by decide +kernel
theorem dX12_aimed_22 : decode cX12_aimed 22 = .ok (.invokestatic 230, 3) := by decide +kernel
theorem dX12_aimed_25 : decode cX12_aimed 25 = .ok (.ifCond .eq 10, 3) := by decide +kernel
theorem dX12_aimed_28 : decode cX12_aimed 28 = .ok (.aload_n 0, 1) := by decide +kernel
theorem dX12_aimed_29 : decode cX12_aimed 29 = .ok (.getfield 440, 3) := by decide +kernel
theorem dX12_aimed_32 : decode cX12_aimed 32 = .ok (.ifCond .ne 5, 3) := by decide +kernel
theorem dX12_aimed_35 : decode cX12_aimed 35 = .ok (.iconst (-1), 1) := by decide +kernel
theorem dX12_aimed_36 : decode cX12_aimed 36 = .ok (.ireturn, 1) := by decide +kernel
theorem dX12_aimed_37 : decode cX12_aimed 37 = .ok (.iload_n 3, 1) := by decide +kernel
theorem dX12_aimed_38 : decode cX12_aimed 38 = .ok (.iconst 2, 1) := by decide +kernel
theorem dX12_aimed_39 : decode cX12_aimed 39 = .ok (.if_icmp .ne 14, 3) := by decide +kernel
theorem dX12_aimed_42 : decode cX12_aimed 42 = .ok (.aload_n 0, 1) := by decide +kernel
theorem dX12_aimed_43 : decode cX12_aimed 43 = .ok (.getfield 440, 3) := by decide +kernel
theorem dX12_aimed_46 : decode cX12_aimed 46 = .ok (.iconst 2, 1) := by decide +kernel
theorem dX12_aimed_47 : decode cX12_aimed 47 = .ok (.if_icmp .ge 6, 3) := by decide +kernel
theorem dX12_aimed_50 : decode cX12_aimed 50 = .ok (.bipush (-2), 2) := by decide +kernel
theorem dX12_aimed_52 : decode cX12_aimed 52 = .ok (.ireturn, 1) := by decide +kernel
theorem dX12_aimed_53 : decode cX12_aimed 53 = .ok (.ldc_w 436, 3) := by decide +kernel
theorem dX12_aimed_56 : decode cX12_aimed 56 = .ok (.istore 4, 2) := by decide +kernel
theorem dX12_aimed_58 : decode cX12_aimed 58 = .ok (.iconst 0, 1) := by decide +kernel
theorem dX12_aimed_59 : decode cX12_aimed 59 = .ok (.istore 5, 2) := by decide +kernel
theorem dX12_aimed_61 : decode cX12_aimed 61 = .ok (.iload 5, 2) := by decide +kernel
theorem dX12_aimed_63 : decode cX12_aimed 63 = .ok (.aload_n 0, 1) := by decide +kernel
theorem dX12_aimed_64 : decode cX12_aimed 64 = .ok (.getfield 440, 3) := by decide +kernel
theorem dX12_aimed_67 : decode cX12_aimed 67 = .ok (.if_icmp .ge 188, 3) := by decide +kernel
theorem dX12_aimed_70 : decode cX12_aimed 70 = .ok (.iconst 0, 1) := by decide +kernel
theorem dX12_aimed_71 : decode cX12_aimed 71 = .ok (.istore 6, 2) := by decide +kernel
theorem dX12_aimed_73 : decode cX12_aimed 73 = .ok (.iload 6, 2) := by decide +kernel
theorem dX12_aimed_75 : decode cX12_aimed 75 = .ok (.iload_n 3, 1) := by decide +kernel
theorem dX12_aimed_76 : decode cX12_aimed 76 = .ok (.iconst 2, 1) := by decide +kernel
theorem dX12_aimed_77 : decode cX12_aimed 77 = .ok (.if_icmp .ne 10, 3) := by decide +kernel
theorem dX12_aimed_80 : decode cX12_aimed 80 = .ok (.aload_n 0, 1) := by decide +kernel
theorem dX12_aimed_81 : decode cX12_aimed 81 = .ok (.getfield 440, 3) := by decide +kernel
theorem dX12_aimed_84 : decode cX12_aimed 84 = .ok (.goto 4, 3) := by decide +kernel
theorem dX12_aimed_87 : decode cX12_aimed 87 = .ok (.iconst 1, 1) := by decide +kernel
theorem dX12_aimed_88 : decode cX12_aimed 88 = .ok (.if_icmp .ge 161, 3) := by decide +kernel
theorem dX12_aimed_91 : decode cX12_aimed 91 = .ok (.iload_n 3, 1) := by decide +kernel
theorem dX12_aimed_92 : decode cX12_aimed 92 = .ok (.iconst 2, 1) := by decide +kernel
theorem dX12_aimed_93 : decode cX12_aimed 93 = .ok (.if_icmp .ne 13, 3) := by decide +kernel
theorem dX12_aimed_96 : decode cX12_aimed 96 = .ok (.iload 6, 2) := by decide +kernel
theorem dX12_aimed_98 : decode cX12_aimed 98 = .ok (.iload 5, 2) := by decide +kernel
theorem dX12_aimed_100 : decode cX12_aimed 100 = .ok (.if_icmp .ne 6, 3) := by decide +kernel
theorem dX12_aimed_103 : decode cX12_aimed 103 = .ok (.goto 140, 3) := by decide +kernel
theorem dX12_aimed_106 : decode cX12_aimed 106 = .ok (.iconst 0, 1) := by decide +kernel
theorem dX12_aimed_107 : decode cX12_aimed 107 = .ok (.istore 7, 2) := by decide +kernel
theorem dX12_aimed_109 : decode cX12_aimed 109 = .ok (.iload 7, 2) := by decide +kernel
theorem dX12_aimed_111 : decode cX12_aimed 111 = .ok (.iconst 3, 1) := by decide +kernel
theorem dX12_aimed_112 : decode cX12_aimed 112 = .ok (.if_icmp .ge 131, 3) := by decide +kernel
theorem dX12_aimed_115 : decode cX12_aimed 115 = .ok (.iload_n 3, 1) := by decide +kernel
theorem dX12_aimed_116 : decode cX12_aimed 116 = .ok (.iconst 2, 1) := by decide +kernel
theorem dX12_aimed_117 : decode cX12_aimed 117 = .ok (.if_icmp .ne 10, 3) := by decide +kernel
theorem dX12_aimed_120 : decode cX12_aimed 120 = .ok (.iload 7, 2) := by decide +kernel
theorem dX12_aimed_122 : decode cX12_aimed 122 = .ok (.iconst 1, 1) := by decide +kernel
theorem dX12_aimed_123 : decode cX12_aimed 123 = .ok (.iadd, 1) := by decide +kernel
theorem dX12_aimed_124 : decode cX12_aimed 124 = .ok (.goto 4, 3) := by decide +kernel
theorem dX12_aimed_127 : decode cX12_aimed 127 = .ok (.iconst 2, 1) := by decide +kernel
theorem dX12_aimed_128 : decode cX12_aimed 128 = .ok (.istore 8, 2) := by decide +kernel
theorem dX12_aimed_130 : decode cX12_aimed 130 = .ok (.iload 8, 2) := by decide +kernel
theorem dX12_aimed_132 : decode cX12_aimed 132 = .ok (.iconst 3, 1) := by decide +kernel
theorem dX12_aimed_133 : decode cX12_aimed 133 = .ok (.if_icmp .ge 104, 3) := by decide +kernel
theorem dX12_aimed_136 : decode cX12_aimed 136 = .ok (.aload_n 0, 1) := by decide +kernel
theorem dX12_aimed_137 : decode cX12_aimed 137 = .ok (.iload 5, 2) := by decide +kernel
theorem dX12_aimed_139 : decode cX12_aimed 139 = .ok (.iload 7, 2) := by decide +kernel
theorem dX12_aimed_141 : decode cX12_aimed 141 = .ok (.iload_n 1, 1) := by decide +kernel
theorem dX12_aimed_142 : decode cX12_aimed 142 = .ok (.iload_n 2, 1) := by decide +kernel
theorem dX12_aimed_143 : decode cX12_aimed 143 = .ok (.invokevirtual 443, 3) := by decide +kernel
theorem dX12_aimed_146 : decode cX12_aimed 146 = .ok (.istore 9, 2) := by decide +kernel
theorem dX12_aimed_148 : decode cX12_aimed 148 = .ok (.iload_n 3, 1) := by decide +kernel
theorem dX12_aimed_149 : decode cX12_aimed 149 = .ok (.iconst 2, 1) := by decide +kernel
theorem dX12_aimed_150 : decode cX12_aimed 150 = .ok (.if_icmp .ne 16, 3) := by decide +kernel
theorem dX12_aimed_153 : decode cX12_aimed 153 = .ok (.aload_n 0, 1) := by decide +kernel
theorem dX12_aimed_154 : decode cX12_aimed 154 = .ok (.iload 6, 2) := by decide +kernel
theorem dX12_aimed_156 : decode cX12_aimed 156 = .ok (.iload 8, 2) := by decide +kernel
theorem dX12_aimed_158 : decode cX12_aimed 158 = .ok (.iload_n 1, 1) := by decide +kernel
theorem dX12_aimed_159 : decode cX12_aimed 159 = .ok (.iload_n 2, 1) := by decide +kernel
theorem dX12_aimed_160 : decode cX12_aimed 160 = .ok (.invokevirtual 443, 3) := by decide +kernel
theorem dX12_aimed_163 : decode cX12_aimed 163 = .ok (.goto 4, 3) := by decide +kernel
theorem dX12_aimed_166 : decode cX12_aimed 166 = .ok (.iconst 0, 1) := by decide +kernel
theorem dX12_aimed_167 : decode cX12_aimed 167 = .ok (.istore 10, 2) := by decide +kernel
theorem dX12_aimed_169 : decode cX12_aimed 169 = .ok (.iload 10, 2) := by decide +kernel
theorem dX12_aimed_171 : decode cX12_aimed 171 = .ok (.iload 9, 2) := by decide +kernel
theorem dX12_aimed_173 : decode cX12_aimed 173 = .ok (.if_icmp .le 8, 3) := by decide +kernel
theorem dX12_aimed_176 : decode cX12_aimed 176 = .ok (.iload 10, 2) := by decide +kernel
theorem dX12_aimed_178 : decode cX12_aimed 178 = .ok (.goto 5, 3) := by decide +kernel
theorem dX12_aimed_181 : decode cX12_aimed 181 = .ok (.iload 9, 2) := by decide +kernel
theorem dX12_aimed_183 : decode cX12_aimed 183 = .ok (.istore 9, 2) := by decide +kernel
theorem dX12_aimed_185 : decode cX12_aimed 185 = .ok (.iload 9, 2) := by decide +kernel
theorem dX12_aimed_187 : decode cX12_aimed 187 = .ok (.iload 4, 2) := by decide +kernel
theorem dX12_aimed_189 : decode cX12_aimed 189 = .ok (.if_icmp .lt 6, 3) := by decide +kernel
theorem dX12_aimed_192 : decode cX12_aimed 192 = .ok (.goto 39, 3) := by decide +kernel
theorem dX12_aimed_195 : decode cX12_aimed 195 = .ok (.iload 9, 2) := by decide +kernel
theorem dX12_aimed_197 : decode cX12_aimed 197 = .ok (.istore 4, 2) := by decide +kernel
theorem dX12_aimed_199 : decode cX12_aimed 199 = .ok (.aload_n 0, 1) := by decide +kernel
theorem dX12_aimed_200 : decode cX12_aimed 200 = .ok (.getfield 187, 3) := by decide +kernel
theorem dX12_aimed_203 : decode cX12_aimed 203 = .ok (.iconst 0, 1) := by decide +kernel
theorem dX12_aimed_204 : decode cX12_aimed 204 = .ok (.iload 5, 2) := by decide +kernel
theorem dX12_aimed_206 : decode cX12_aimed 206 = .ok (.iastore, 1) := by decide +kernel
theorem dX12_aimed_207 : decode cX12_aimed 207 = .ok (.aload_n 0, 1) := by decide +kernel
theorem dX12_aimed_208 : decode cX12_aimed 208 = .ok (.getfield 190, 3) := by decide +kernel
theorem dX12_aimed_211 : decode cX12_aimed 211 = .ok (.iconst 0, 1) := by decide +kernel
theorem dX12_aimed_212 : decode cX12_aimed 212 = .ok (.iload 7, 2) := by decide +kernel
theorem dX12_aimed_214 : decode cX12_aimed 214 = .ok (.iastore, 1) := by decide +kernel
theorem dX12_aimed_215 : decode cX12_aimed 215 = .ok (.aload_n 0, 1) := by decide +kernel
theorem dX12_aimed_216 : decode cX12_aimed 216 = .ok (.getfield 187, 3) := by decide +kernel
theorem dX12_aimed_219 : decode cX12_aimed 219 = .ok (.iconst 1, 1) := by decide +kernel
theorem dX12_aimed_220 : decode cX12_aimed 220 = .ok (.iload 6, 2) := by decide +kernel
theorem dX12_aimed_222 : decode cX12_aimed 222 = .ok (.iastore, 1) := by decide +kernel
theorem dX12_aimed_223 : decode cX12_aimed 223 = .ok (.aload_n 0, 1) := by decide +kernel
theorem dX12_aimed_224 : decode cX12_aimed 224 = .ok (.getfield 190, 3) := by decide +kernel
theorem dX12_aimed_227 : decode cX12_aimed 227 = .ok (.iconst 1, 1) := by decide +kernel
theorem dX12_aimed_228 : decode cX12_aimed 228 = .ok (.iload 8, 2) := by decide +kernel
theorem dX12_aimed_230 : decode cX12_aimed 230 = .ok (.iastore, 1) := by decide +kernel
theorem dX12_aimed_231 : decode cX12_aimed 231 = .ok (.iinc 8 1, 3) := by decide +kernel
theorem dX12_aimed_234 : decode cX12_aimed 234 = .ok (.goto (-104), 3) := by decide +kernel
theorem dX12_aimed_237 : decode cX12_aimed 237 = .ok (.iinc 7 1, 3) := by decide +kernel
theorem dX12_aimed_240 : decode cX12_aimed 240 = .ok (.goto (-131), 3) := by decide +kernel
theorem dX12_aimed_243 : decode cX12_aimed 243 = .ok (.iinc 6 1, 3) := by decide +kernel
theorem dX12_aimed_246 : decode cX12_aimed 246 = .ok (.goto (-173), 3) := by decide +kernel
theorem dX12_aimed_249 : decode cX12_aimed 249 = .ok (.iinc 5 1, 3) := by decide +kernel
theorem dX12_aimed_252 : decode cX12_aimed 252 = .ok (.goto (-191), 3) := by decide +kernel
theorem dX12_aimed_255 : decode cX12_aimed 255 = .ok (.aload_n 0, 1) := by decide +kernel
theorem dX12_aimed_256 : decode cX12_aimed 256 = .ok (.iload_n 3, 1) := by decide +kernel
theorem dX12_aimed_257 : decode cX12_aimed 257 = .ok (.putfield 447, 3) := by decide +kernel
theorem dX12_aimed_260 : decode cX12_aimed 260 = .ok (.aload_n 0, 1) := by decide +kernel
theorem dX12_aimed_261 : decode cX12_aimed 261 = .ok (.iconst 0, 1) := by decide +kernel
theorem dX12_aimed_262 : decode cX12_aimed 262 = .ok (.putfield 440, 3) := by decide +kernel
theorem dX12_aimed_265 : decode cX12_aimed 265 = .ok (.iload 4, 2) := by decide +kernel
theorem dX12_aimed_267 : decode cX12_aimed 267 = .ok (.ireturn, 1) := by decide +kernel
theorem dX12_aimedAt_0 : decode cX12_aimedAt 0 = .ok (.iload_n 1, 1) := by decide +kernel
theorem dX12_aimedAt_1 : decode cX12_aimedAt 1 = .ok (.iconst 0, 1) := by decide +kernel
theorem dX12_aimedAt_2 : decode cX12_aimedAt 2 = .ok (.aload_n 0, 1) := by decide +kernel
theorem dX12_aimedAt_3 : decode cX12_aimedAt 3 = .ok (.getfield 447, 3) := by decide +kernel
theorem dX12_aimedAt_6 : decode cX12_aimedAt 6 = .ok (.iconst 1, 1) := by decide +kernel
theorem dX12_aimedAt_7 : decode cX12_aimedAt 7 = .ok (.isub, 1) := by decide +kernel
theorem dX12_aimedAt_8 : decode cX12_aimedAt 8 = .ok (.invokestatic 230, 3) := by decide +kernel
theorem dX12_aimedAt_11 : decode cX12_aimedAt 11 = .ok (.ifCond .eq 12, 3) := by decide +kernel
theorem dX12_aimedAt_14 : decode cX12_aimedAt 14 = .ok (.iload_n 2, 1) := by decide +kernel
theorem dX12_aimedAt_15 : decode cX12_aimedAt 15 = .ok (.iconst 0, 1) := by decide +kernel
theorem dX12_aimedAt_16 : decode cX12_aimedAt 16 = .ok (.iconst 1, 1) := by decide +kernel
theorem dX12_aimedAt_17 : decode cX12_aimedAt 17 = .ok (.invokestatic 230, 3) := by decide +kernel
theorem dX12_aimedAt_20 : decode cX12_aimedAt 20 = .ok (.ifCond .ne 7, 3) := by decide +kernel
theorem dX12_aimedAt_23 : decode cX12_aimedAt 23 = .ok (.iconst (-1), 1) := by decide +kernel
theorem dX12_aimedAt_24 : decode cX12_aimedAt 24 = .ok (.goto 22, 3) := by decide +kernel
theorem dX12_aimedAt_27 : decode cX12_aimedAt 27 = .ok (.iload_n 2, 1) := by decide +kernel
theorem dX12_aimedAt_28 : decode cX12_aimedAt 28 = .ok (.ifCond .ne 12, 3) := by decide +kernel
theorem dX12_aimedAt_31 : decode cX12_aimedAt 31 = .ok (.aload_n 0, 1) := by decide +kernel
theorem dX12_aimedAt_32 : decode cX12_aimedAt 32 = .ok (.getfield 187, 3) := by decide +kernel
theorem dX12_aimedAt_35 : decode cX12_aimedAt 35 = .ok (.iload_n 1, 1) := by decide +kernel
theorem dX12_aimedAt_36 : decode cX12_aimedAt 36 = .ok (.iaload, 1) := by decide +kernel
theorem dX12_aimedAt_37 : decode cX12_aimedAt 37 = .ok (.goto 9, 3) := by decide +kernel
theorem dX12_aimedAt_40 : decode cX12_aimedAt 40 = .ok (.aload_n 0, 1) := by decide +kernel
theorem dX12_aimedAt_41 : decode cX12_aimedAt 41 = .ok (.getfield 190, 3) := by decide +kernel
theorem dX12_aimedAt_44 : decode cX12_aimedAt 44 = .ok (.iload_n 1, 1) := by decide +kernel
theorem dX12_aimedAt_45 : decode cX12_aimedAt 45 = .ok (.iaload, 1) := by decide +kernel
theorem dX12_aimedAt_46 : decode cX12_aimedAt 46 = .ok (.ireturn, 1) := by decide +kernel
theorem dX12_race_0 : decode cX12_race 0 = .ok (.iload_n 1, 1) := by decide +kernel
theorem dX12_race_1 : decode cX12_race 1 = .ok (.invokestatic 278, 3) := by decide +kernel
theorem dX12_race_4 : decode cX12_race 4 = .ok (.ifCond .eq 23, 3) := by decide +kernel
theorem dX12_race_7 : decode cX12_race 7 = .ok (.iload_n 2, 1) := by decide +kernel
theorem dX12_race_8 : decode cX12_race 8 = .ok (.iconst 1, 1) := by decide +kernel
theorem dX12_race_9 : decode cX12_race 9 = .ok (.bipush 60, 2) := by decide +kernel
theorem dX12_race_11 : decode cX12_race 11 = .ok (.invokestatic 230, 3) := by decide +kernel
theorem dX12_race_14 : decode cX12_race 14 = .ok (.ifCond .eq 13, 3) := by decide +kernel
theorem dX12_race_17 : decode cX12_race 17 = .ok (.iload_n 3, 1) := by decide +kernel
theorem dX12_race_18 : decode cX12_race 18 = .ok (.iconst 1, 1) := by decide +kernel
theorem dX12_race_19 : decode cX12_race 19 = .ok (.bipush 9, 2) := by decide +kernel
theorem dX12_race_21 : decode cX12_race 21 = .ok (.invokestatic 230, 3) := by decide +kernel
theorem dX12_race_24 : decode cX12_race 24 = .ok (.ifCond .ne 5, 3) := by decide +kernel
theorem dX12_race_27 : decode cX12_race 27 = .ok (.iconst (-1), 1) := by decide +kernel
theorem dX12_race_28 : decode cX12_race 28 = .ok (.ireturn, 1) := by decide +kernel
theorem dX12_race_29 : decode cX12_race 29 = .ok (.aload_n 0, 1) := by decide +kernel
theorem dX12_race_30 : decode cX12_race 30 = .ok (.getfield 72, 3) := by decide +kernel
theorem dX12_race_33 : decode cX12_race 33 = .ok (.iload_n 1, 1) := by decide +kernel
theorem dX12_race_34 : decode cX12_race 34 = .ok (.iaload, 1) := by decide +kernel
theorem dX12_race_35 : decode cX12_race 35 = .ok (.istore 4, 2) := by decide +kernel
theorem dX12_race_37 : decode cX12_race 37 = .ok (.iload 4, 2) := by decide +kernel
theorem dX12_race_39 : decode cX12_race 39 = .ok (.ifCond .lt 24, 3) := by decide +kernel
theorem dX12_race_42 : decode cX12_race 42 = .ok (.aload_n 0, 1) := by decide +kernel
theorem dX12_race_43 : decode cX12_race 43 = .ok (.getfield 38, 3) := by decide +kernel
theorem dX12_race_46 : decode cX12_race 46 = .ok (.iload 4, 2) := by decide +kernel
theorem dX12_race_48 : decode cX12_race 48 = .ok (.iaload, 1) := by decide +kernel
theorem dX12_race_49 : decode cX12_race 49 = .ok (.ifCond .gt 14, 3) := by decide +kernel
theorem dX12_race_52 : decode cX12_race 52 = .ok (.aload_n 0, 1) := by decide +kernel
theorem dX12_race_53 : decode cX12_race 53 = .ok (.getfield 32, 3) := by decide +kernel
theorem dX12_race_56 : decode cX12_race 56 = .ok (.iload 4, 2) := by decide +kernel
theorem dX12_race_58 : decode cX12_race 58 = .ok (.iaload, 1) := by decide +kernel
theorem dX12_race_59 : decode cX12_race 59 = .ok (.iload_n 2, 1) := by decide +kernel
theorem dX12_race_60 : decode cX12_race 60 = .ok (.if_icmp .lt 6, 3) := by decide +kernel
theorem dX12_race_63 : decode cX12_race 63 = .ok (.bipush (-2), 2) := by decide +kernel
theorem dX12_race_65 : decode cX12_race 65 = .ok (.ireturn, 1) := by decide +kernel
theorem dX12_race_66 : decode cX12_race 66 = .ok (.iload_n 2, 1) := by decide +kernel
theorem dX12_race_67 : decode cX12_race 67 = .ok (.aload_n 0, 1) := by decide +kernel
theorem dX12_race_68 : decode cX12_race 68 = .ok (.getfield 32, 3) := by decide +kernel
theorem dX12_race_71 : decode cX12_race 71 = .ok (.iload 4, 2) := by decide +kernel
theorem dX12_race_73 : decode cX12_race 73 = .ok (.iaload, 1) := by decide +kernel
theorem dX12_race_74 : decode cX12_race 74 = .ok (.isub, 1) := by decide +kernel
theorem dX12_race_75 : decode cX12_race 75 = .ok (.aload_n 0, 1) := by decide +kernel
theorem dX12_race_76 : decode cX12_race 76 = .ok (.getfield 69, 3) := by decide +kernel
theorem dX12_race_79 : decode cX12_race 79 = .ok (.iload_n 1, 1) := by decide +kernel
theorem dX12_race_80 : decode cX12_race 80 = .ok (.iaload, 1) := by decide +kernel
theorem dX12_race_81 : decode cX12_race 81 = .ok (.imul, 1) := by decide +kernel
theorem dX12_race_82 : decode cX12_race 82 = .ok (.iload_n 3, 1) := by decide +kernel
theorem dX12_race_83 : decode cX12_race 83 = .ok (.imul, 1) := by decide +kernel
theorem dX12_race_84 : decode cX12_race 84 = .ok (.aload_n 0, 1) := by decide +kernel
theorem dX12_race_85 : decode cX12_race 85 = .ok (.getfield 35, 3) := by decide +kernel
theorem dX12_race_88 : decode cX12_race 88 = .ok (.iload 4, 2) := by decide +kernel
theorem dX12_race_90 : decode cX12_race 90 = .ok (.iaload, 1) := by decide +kernel
theorem dX12_race_91 : decode cX12_race 91 = .ok (.isub, 1) := by decide +kernel
theorem dX12_race_92 : decode cX12_race 92 = .ok (.istore 5, 2) := by decide +kernel
theorem dX12_race_94 : decode cX12_race 94 = .ok (.iload 5, 2) := by decide +kernel
theorem dX12_race_96 : decode cX12_race 96 = .ok (.bipush 60, 2) := by decide +kernel
theorem dX12_race_98 : decode cX12_race 98 = .ok (.if_icmp .gt 7, 3) := by decide +kernel
theorem dX12_race_101 : decode cX12_race 101 = .ok (.iconst 1, 1) := by decide +kernel
theorem dX12_race_102 : decode cX12_race 102 = .ok (.goto 11, 3) := by decide +kernel
theorem dX12_race_105 : decode cX12_race 105 = .ok (.iload 5, 2) := by decide +kernel
theorem dX12_race_107 : decode cX12_race 107 = .ok (.bipush 59, 2) := by decide +kernel
theorem dX12_race_109 : decode cX12_race 109 = .ok (.iadd, 1) := by decide +kernel
theorem dX12_race_110 : decode cX12_race 110 = .ok (.bipush 60, 2) := by decide +kernel
theorem dX12_race_112 : decode cX12_race 112 = .ok (.idiv, 1) := by decide +kernel
theorem dX12_race_113 : decode cX12_race 113 = .ok (.istore 6, 2) := by decide +kernel
theorem dX12_race_115 : decode cX12_race 115 = .ok (.aload_n 0, 1) := by decide +kernel
theorem dX12_race_116 : decode cX12_race 116 = .ok (.getfield 75, 3) := by decide +kernel
theorem dX12_race_119 : decode cX12_race 119 = .ok (.iload_n 1, 1) := by decide +kernel
theorem dX12_race_120 : decode cX12_race 120 = .ok (.iaload, 1) := by decide +kernel
theorem dX12_race_121 : decode cX12_race 121 = .ok (.aload_n 0, 1) := by decide +kernel
theorem dX12_race_122 : decode cX12_race 122 = .ok (.getfield 281, 3) := by decide +kernel
theorem dX12_race_125 : decode cX12_race 125 = .ok (.if_icmp .le 12, 3) := by decide +kernel
theorem dX12_race_128 : decode cX12_race 128 = .ok (.aload_n 0, 1) := by decide +kernel
theorem dX12_race_129 : decode cX12_race 129 = .ok (.getfield 75, 3) := by decide +kernel
theorem dX12_race_132 : decode cX12_race 132 = .ok (.iload_n 1, 1) := by decide +kernel
theorem dX12_race_133 : decode cX12_race 133 = .ok (.iaload, 1) := by decide +kernel
theorem dX12_race_134 : decode cX12_race 134 = .ok (.goto 7, 3) := by decide +kernel
theorem dX12_race_137 : decode cX12_race 137 = .ok (.aload_n 0, 1) := by decide +kernel
theorem dX12_race_138 : decode cX12_race 138 = .ok (.getfield 281, 3) := by decide +kernel
theorem dX12_race_141 : decode cX12_race 141 = .ok (.istore 7, 2) := by decide +kernel
theorem dX12_race_143 : decode cX12_race 143 = .ok (.iload 7, 2) := by decide +kernel
theorem dX12_race_145 : decode cX12_race 145 = .ok (.iload 6, 2) := by decide +kernel
theorem dX12_race_147 : decode cX12_race 147 = .ok (.iadd, 1) := by decide +kernel
theorem dX12_race_148 : decode cX12_race 148 = .ok (.iconst 0, 1) := by decide +kernel
theorem dX12_race_149 : decode cX12_race 149 = .ok (.sipush 9999, 3) := by decide +kernel
theorem dX12_race_152 : decode cX12_race 152 = .ok (.invokestatic 284, 3) := by decide +kernel
theorem dX12_race_155 : decode cX12_race 155 = .ok (.ireturn, 1) := by decide +kernel
theorem dX12_capsule_0 : decode cX12_capsule 0 = .ok (.aload_n 0, 1) := by decide +kernel
theorem dX12_capsule_1 : decode cX12_capsule 1 = .ok (.iload_n 1, 1) := by decide +kernel
theorem dX12_capsule_2 : decode cX12_capsule 2 = .ok (.invokevirtual 245, 3) := by decide +kernel
theorem dX12_capsule_5 : decode cX12_capsule 5 = .ok (.ifCond .eq 23, 3) := by decide +kernel
theorem dX12_capsule_8 : decode cX12_capsule 8 = .ok (.aload_n 0, 1) := by decide +kernel
theorem dX12_capsule_9 : decode cX12_capsule 9 = .ok (.getfield 17, 3) := by decide +kernel
theorem dX12_capsule_12 : decode cX12_capsule 12 = .ok (.iload_n 1, 1) := by decide +kernel
theorem dX12_capsule_13 : decode cX12_capsule 13 = .ok (.iaload, 1) := by decide +kernel
theorem dX12_capsule_14 : decode cX12_capsule 14 = .ok (.iconst 4, 1) := by decide +kernel
theorem dX12_capsule_15 : decode cX12_capsule 15 = .ok (.if_icmp .eq 15, 3) := by decide +kernel
theorem dX12_capsule_18 : decode cX12_capsule 18 = .ok (.aload_n 0, 1) := by decide +kernel
theorem dX12_capsule_19 : decode cX12_capsule 19 = .ok (.getfield 17, 3) := by decide +kernel
theorem dX12_capsule_22 : decode cX12_capsule 22 = .ok (.iload_n 1, 1) := by decide +kernel
theorem dX12_capsule_23 : decode cX12_capsule 23 = .ok (.iaload, 1) := by decide +kernel
theorem dX12_capsule_24 : decode cX12_capsule 24 = .ok (.iconst 5, 1) := by decide +kernel
theorem dX12_capsule_25 : decode cX12_capsule 25 = .ok (.if_icmp .eq 5, 3) := by decide +kernel
theorem dX12_capsule_28 : decode cX12_capsule 28 = .ok (.iconst (-1), 1) := by decide +kernel
theorem dX12_capsule_29 : decode cX12_capsule 29 = .ok (.ireturn, 1) := by decide +kernel
theorem dX12_capsule_30 : decode cX12_capsule 30 = .ok (.aload_n 0, 1) := by decide +kernel
theorem dX12_capsule_31 : decode cX12_capsule 31 = .ok (.getfield 38, 3) := by decide +kernel
theorem dX12_capsule_34 : decode cX12_capsule 34 = .ok (.iload_n 1, 1) := by decide +kernel
theorem dX12_capsule_35 : decode cX12_capsule 35 = .ok (.iaload, 1) := by decide +kernel
theorem dX12_capsule_36 : decode cX12_capsule 36 = .ok (.ifCond .eq 10, 3) := by decide +kernel
theorem dX12_capsule_39 : decode cX12_capsule 39 = .ok (.aload_n 0, 1) := by decide +kernel
theorem dX12_capsule_40 : decode cX12_capsule 40 = .ok (.invokevirtual 394, 3) := by decide +kernel
theorem dX12_capsule_43 : decode cX12_capsule 43 = .ok (.ifCond .ne 6, 3) := by decide +kernel
theorem dX12_capsule_46 : decode cX12_capsule 46 = .ok (.bipush (-2), 2) := by decide +kernel
theorem dX12_capsule_48 : decode cX12_capsule 48 = .ok (.ireturn, 1) := by decide +kernel
theorem dX12_capsule_49 : decode cX12_capsule 49 = .ok (.iconst 0, 1) := by decide +kernel
theorem dX12_capsule_50 : decode cX12_capsule 50 = .ok (.istore_n 2, 1) := by decide +kernel
theorem dX12_capsule_51 : decode cX12_capsule 51 = .ok (.iconst 0, 1) := by decide +kernel
theorem dX12_capsule_52 : decode cX12_capsule 52 = .ok (.istore_n 3, 1) := by decide +kernel
theorem dX12_capsule_53 : decode cX12_capsule 53 = .ok (.iload_n 3, 1) := by decide +kernel
theorem dX12_capsule_54 : decode cX12_capsule 54 = .ok (.aload_n 0, 1) := by decide +kernel
theorem dX12_capsule_55 : decode cX12_capsule 55 = .ok (.getfield 242, 3) := by decide +kernel
theorem dX12_capsule_58 : decode cX12_capsule 58 = .ok (.if_icmp .ge 110, 3) := by decide +kernel
theorem dX12_capsule_61 : decode cX12_capsule 61 = .ok (.aload_n 0, 1) := by decide +kernel
theorem dX12_capsule_62 : decode cX12_capsule 62 = .ok (.getfield 62, 3) := by decide +kernel
theorem dX12_capsule_65 : decode cX12_capsule 65 = .ok (.iload_n 3, 1) := by decide +kernel
theorem dX12_capsule_66 : decode cX12_capsule 66 = .ok (.baload, 1) := by decide +kernel
theorem dX12_capsule_67 : decode cX12_capsule 67 = .ok (.ifCond .ne 6, 3) := by decide +kernel
theorem dX12_capsule_70 : decode cX12_capsule 70 = .ok (.goto 92, 3) := by decide +kernel
theorem dX12_capsule_73 : decode cX12_capsule 73 = .ok (.aload_n 0, 1) := by decide +kernel
theorem dX12_capsule_74 : decode cX12_capsule 74 = .ok (.iconst 1, 1) := by decide +kernel
theorem dX12_capsule_75 : decode cX12_capsule 75 = .ok (.iload_n 3, 1) := by decide +kernel
theorem dX12_capsule_76 : decode cX12_capsule 76 = .ok (.iconst 0, 1) := by decide +kernel
theorem dX12_capsule_77 : decode cX12_capsule 77 = .ok (.invokevirtual 403, 3) := by decide +kernel
theorem dX12_capsule_80 : decode cX12_capsule 80 = .ok (.istore 4, 2) := by decide +kernel
theorem dX12_capsule_82 : decode cX12_capsule 82 = .ok (.iload_n 2, 1) := by decide +kernel
theorem dX12_capsule_83 : decode cX12_capsule 83 = .ok (.istore 5, 2) := by decide +kernel
theorem dX12_capsule_85 : decode cX12_capsule 85 = .ok (.iload 5, 2) := by decide +kernel
theorem dX12_capsule_87 : decode cX12_capsule 87 = .ok (.ifCond .le 55, 3) := by decide +kernel
theorem dX12_capsule_90 : decode cX12_capsule 90 = .ok (.aload_n 0, 1) := by decide +kernel
theorem dX12_capsule_91 : decode cX12_capsule 91 = .ok (.getfield 199, 3) := by decide +kernel
theorem dX12_capsule_94 : decode cX12_capsule 94 = .ok (.iload 5, 2) := by decide +kernel
theorem dX12_capsule_96 : decode cX12_capsule 96 = .ok (.iconst 1, 1) := by decide +kernel
theorem dX12_capsule_97 : decode cX12_capsule 97 = .ok (.isub, 1) := by decide +kernel
theorem dX12_capsule_98 : decode cX12_capsule 98 = .ok (.iaload, 1) := by decide +kernel
theorem dX12_capsule_99 : decode cX12_capsule 99 = .ok (.iload 4, 2) := by decide +kernel
theorem dX12_capsule_101 : decode cX12_capsule 101 = .ok (.if_icmp .ge 41, 3) := by decide +kernel
theorem dX12_capsule_104 : decode cX12_capsule 104 = .ok (.aload_n 0, 1) := by decide +kernel
theorem dX12_capsule_105 : decode cX12_capsule 105 = .ok (.getfield 196, 3) := by decide +kernel
theorem dX12_capsule_108 : decode cX12_capsule 108 = .ok (.iload 5, 2) := by decide +kernel
theorem dX12_capsule_110 : decode cX12_capsule 110 = .ok (.aload_n 0, 1) := by decide +kernel
theorem dX12_capsule_111 : decode cX12_capsule 111 = .ok (.getfield 196, 3) := by decide +kernel
theorem dX12_capsule_114 : decode cX12_capsule 114 = .ok (.iload 5, 2) := by decide +kernel
theorem dX12_capsule_116 : decode cX12_capsule 116 = .ok (.iconst 1, 1) := by decide +kernel
theorem dX12_capsule_117 : decode cX12_capsule 117 = .ok (.isub, 1) := by decide +kernel
theorem dX12_capsule_118 : decode cX12_capsule 118 = .ok (.iaload, 1) := by decide +kernel
theorem dX12_capsule_119 : decode cX12_capsule 119 = .ok (.iastore, 1) := by decide +kernel
theorem dX12_capsule_120 : decode cX12_capsule 120 = .ok (.aload_n 0, 1) := by decide +kernel
theorem dX12_capsule_121 : decode cX12_capsule 121 = .ok (.getfield 199, 3) := by decide +kernel
theorem dX12_capsule_124 : decode cX12_capsule 124 = .ok (.iload 5, 2) := by decide +kernel
theorem dX12_capsule_126 : decode cX12_capsule 126 = .ok (.aload_n 0, 1) := by decide +kernel
theorem dX12_capsule_127 : decode cX12_capsule 127 = .ok (.getfield 199, 3) := by decide +kernel
theorem dX12_capsule_130 : decode cX12_capsule 130 = .ok (.iload 5, 2) := by decide +kernel
theorem dX12_capsule_132 : decode cX12_capsule 132 = .ok (.iconst 1, 1) := by decide +kernel
theorem dX12_capsule_133 : decode cX12_capsule 133 = .ok (.isub, 1) := by decide +kernel
theorem dX12_capsule_134 : decode cX12_capsule 134 = .ok (.iaload, 1) := by decide +kernel
theorem dX12_capsule_135 : decode cX12_capsule 135 = .ok (.iastore, 1) := by decide +kernel
theorem dX12_capsule_136 : decode cX12_capsule 136 = .ok (.iinc 5 (-1), 3) := by decide +kernel
theorem dX12_capsule_139 : decode cX12_capsule 139 = .ok (.goto (-54), 3) := by decide +kernel
theorem dX12_capsule_142 : decode cX12_capsule 142 = .ok (.aload_n 0, 1) := by decide +kernel
theorem dX12_capsule_143 : decode cX12_capsule 143 = .ok (.getfield 196, 3) := by decide +kernel
theorem dX12_capsule_146 : decode cX12_capsule 146 = .ok (.iload 5, 2) := by decide +kernel
theorem dX12_capsule_148 : decode cX12_capsule 148 = .ok (.iload_n 3, 1) := by decide +kernel
theorem dX12_capsule_149 : decode cX12_capsule 149 = .ok (.iastore, 1) := by decide +kernel
theorem dX12_capsule_150 : decode cX12_capsule 150 = .ok (.aload_n 0, 1) := by decide +kernel
theorem dX12_capsule_151 : decode cX12_capsule 151 = .ok (.getfield 199, 3) := by decide +kernel
theorem dX12_capsule_154 : decode cX12_capsule 154 = .ok (.iload 5, 2) := by decide +kernel
theorem dX12_capsule_156 : decode cX12_capsule 156 = .ok (.iload 4, 2) := by decide +kernel
theorem dX12_capsule_158 : decode cX12_capsule 158 = .ok (.iastore, 1) := by decide +kernel
theorem dX12_capsule_159 : decode cX12_capsule 159 = .ok (.iinc 2 1, 3) := by decide +kernel
theorem dX12_capsule_162 : decode cX12_capsule 162 = .ok (.iinc 3 1, 3) := by decide +kernel
theorem dX12_capsule_165 : decode cX12_capsule 165 = .ok (.goto (-112), 3) := by decide +kernel
theorem dX12_capsule_168 : decode cX12_capsule 168 = .ok (.iconst 0, 1) := by decide +kernel
theorem dX12_capsule_169 : decode cX12_capsule 169 = .ok (.istore_n 3, 1) := by decide +kernel
theorem dX12_capsule_170 : decode cX12_capsule 170 = .ok (.iload_n 3, 1) := by decide +kernel
theorem dX12_capsule_171 : decode cX12_capsule 171 = .ok (.iload_n 2, 1) := by decide +kernel
theorem dX12_capsule_172 : decode cX12_capsule 172 = .ok (.if_icmp .ge 35, 3) := by decide +kernel
theorem dX12_capsule_175 : decode cX12_capsule 175 = .ok (.aload_n 0, 1) := by decide +kernel
theorem dX12_capsule_176 : decode cX12_capsule 176 = .ok (.getfield 202, 3) := by decide +kernel
theorem dX12_capsule_179 : decode cX12_capsule 179 = .ok (.iload_n 3, 1) := by decide +kernel
theorem dX12_capsule_180 : decode cX12_capsule 180 = .ok (.aload_n 0, 1) := by decide +kernel
theorem dX12_capsule_181 : decode cX12_capsule 181 = .ok (.getfield 281, 3) := by decide +kernel
theorem dX12_capsule_184 : decode cX12_capsule 184 = .ok (.iload_n 3, 1) := by decide +kernel
theorem dX12_capsule_185 : decode cX12_capsule 185 = .ok (.iconst 1, 1) := by decide +kernel
theorem dX12_capsule_186 : decode cX12_capsule 186 = .ok (.iadd, 1) := by decide +kernel
theorem dX12_capsule_187 : decode cX12_capsule 187 = .ok (.iconst 1, 1) := by decide +kernel
theorem dX12_capsule_188 : decode cX12_capsule 188 = .ok (.aload_n 0, 1) := by decide +kernel
theorem dX12_capsule_189 : decode cX12_capsule 189 = .ok (.getfield 32, 3) := by decide +kernel
theorem dX12_capsule_192 : decode cX12_capsule 192 = .ok (.iload_n 1, 1) := by decide +kernel
theorem dX12_capsule_193 : decode cX12_capsule 193 = .ok (.iaload, 1) := by decide +kernel
theorem dX12_capsule_194 : decode cX12_capsule 194 = .ok (.bipush 20, 2) := by decide +kernel
theorem dX12_capsule_196 : decode cX12_capsule 196 = .ok (.idiv, 1) := by decide +kernel
theorem dX12_capsule_197 : decode cX12_capsule 197 = .ok (.iadd, 1) := by decide +kernel
theorem dX12_capsule_198 : decode cX12_capsule 198 = .ok (.imul, 1) := by decide +kernel
theorem dX12_capsule_199 : decode cX12_capsule 199 = .ok (.iadd, 1) := by decide +kernel
theorem dX12_capsule_200 : decode cX12_capsule 200 = .ok (.iastore, 1) := by decide +kernel
theorem dX12_capsule_201 : decode cX12_capsule 201 = .ok (.iinc 3 1, 3) := by decide +kernel
theorem dX12_capsule_204 : decode cX12_capsule 204 = .ok (.goto (-34), 3) := by decide +kernel
theorem dX12_capsule_207 : decode cX12_capsule 207 = .ok (.aload_n 0, 1) := by decide +kernel
theorem dX12_capsule_208 : decode cX12_capsule 208 = .ok (.iload_n 2, 1) := by decide +kernel
theorem dX12_capsule_209 : decode cX12_capsule 209 = .ok (.putfield 193, 3) := by decide +kernel
theorem dX12_capsule_212 : decode cX12_capsule 212 = .ok (.aload_n 0, 1) := by decide +kernel
theorem dX12_capsule_213 : decode cX12_capsule 213 = .ok (.aload_n 0, 1) := by decide +kernel
theorem dX12_capsule_214 : decode cX12_capsule 214 = .ok (.getfield 281, 3) := by decide +kernel
theorem dX12_capsule_217 : decode cX12_capsule 217 = .ok (.putfield 450, 3) := by decide +kernel
theorem dX12_capsule_220 : decode cX12_capsule 220 = .ok (.aload_n 0, 1) := by decide +kernel
theorem dX12_capsule_221 : decode cX12_capsule 221 = .ok (.getfield 202, 3) := by decide +kernel
theorem dX12_capsule_224 : decode cX12_capsule 224 = .ok (.iload_n 2, 1) := by decide +kernel
theorem dX12_capsule_225 : decode cX12_capsule 225 = .ok (.iconst 1, 1) := by decide +kernel
theorem dX12_capsule_226 : decode cX12_capsule 226 = .ok (.isub, 1) := by decide +kernel
theorem dX12_capsule_227 : decode cX12_capsule 227 = .ok (.iaload, 1) := by decide +kernel
theorem dX12_capsule_228 : decode cX12_capsule 228 = .ok (.ireturn, 1) := by decide +kernel
theorem dX12_up_0 : decode cX12_up 0 = .ok (.iload_n 1, 1) := by decide +kernel
theorem dX12_up_1 : decode cX12_up 1 = .ok (.iconst 0, 1) := by decide +kernel
theorem dX12_up_2 : decode cX12_up 2 = .ok (.aload_n 0, 1) := by decide +kernel
theorem dX12_up_3 : decode cX12_up 3 = .ok (.getfield 193, 3) := by decide +kernel
theorem dX12_up_6 : decode cX12_up 6 = .ok (.iconst 1, 1) := by decide +kernel
theorem dX12_up_7 : decode cX12_up 7 = .ok (.isub, 1) := by decide +kernel
theorem dX12_up_8 : decode cX12_up 8 = .ok (.invokestatic 230, 3) := by decide +kernel
theorem dX12_up_11 : decode cX12_up 11 = .ok (.ifCond .eq 12, 3) := by decide +kernel
theorem dX12_up_14 : decode cX12_up 14 = .ok (.iload_n 2, 1) := by decide +kernel
theorem dX12_up_15 : decode cX12_up 15 = .ok (.iconst 0, 1) := by decide +kernel
theorem dX12_up_16 : decode cX12_up 16 = .ok (.iconst 1, 1) := by decide +kernel
theorem dX12_up_17 : decode cX12_up 17 = .ok (.invokestatic 230, 3) := by decide +kernel
theorem dX12_up_20 : decode cX12_up 20 = .ok (.ifCond .ne 7, 3) := by decide +kernel
theorem dX12_up_23 : decode cX12_up 23 = .ok (.iconst (-1), 1) := by decide +kernel
theorem dX12_up_24 : decode cX12_up 24 = .ok (.goto 22, 3) := by decide +kernel
theorem dX12_up_27 : decode cX12_up 27 = .ok (.iload_n 2, 1) := by decide +kernel
theorem dX12_up_28 : decode cX12_up 28 = .ok (.ifCond .ne 12, 3) := by decide +kernel
theorem dX12_up_31 : decode cX12_up 31 = .ok (.aload_n 0, 1) := by decide +kernel
theorem dX12_up_32 : decode cX12_up 32 = .ok (.getfield 196, 3) := by decide +kernel
theorem dX12_up_35 : decode cX12_up 35 = .ok (.iload_n 1, 1) := by decide +kernel
theorem dX12_up_36 : decode cX12_up 36 = .ok (.iaload, 1) := by decide +kernel
theorem dX12_up_37 : decode cX12_up 37 = .ok (.goto 9, 3) := by decide +kernel
theorem dX12_up_40 : decode cX12_up 40 = .ok (.aload_n 0, 1) := by decide +kernel
theorem dX12_up_41 : decode cX12_up 41 = .ok (.getfield 202, 3) := by decide +kernel
theorem dX12_up_44 : decode cX12_up 44 = .ok (.iload_n 1, 1) := by decide +kernel
theorem dX12_up_45 : decode cX12_up 45 = .ok (.iaload, 1) := by decide +kernel
theorem dX12_up_46 : decode cX12_up 46 = .ok (.ireturn, 1) := by decide +kernel
theorem dX12_raise_0 : decode cX12_raise 0 = .ok (.iload_n 1, 1) := by decide +kernel
theorem dX12_raise_1 : decode cX12_raise 1 = .ok (.iconst 0, 1) := by decide +kernel
theorem dX12_raise_2 : decode cX12_raise 2 = .ok (.sipush 199, 3) := by decide +kernel
theorem dX12_raise_5 : decode cX12_raise 5 = .ok (.invokestatic 230, 3) := by decide +kernel
theorem dX12_raise_8 : decode cX12_raise 8 = .ok (.ifCond .ne 5, 3) := by decide +kernel
theorem dX12_raise_11 : decode cX12_raise 11 = .ok (.iconst (-1), 1) := by decide +kernel
theorem dX12_raise_12 : decode cX12_raise 12 = .ok (.ireturn, 1) := by decide +kernel
theorem dX12_raise_13 : decode cX12_raise 13 = .ok (.aload_n 0, 1) := by decide +kernel
theorem dX12_raise_14 : decode cX12_raise 14 = .ok (.getfield 193, 3) := by decide +kernel
theorem dX12_raise_17 : decode cX12_raise 17 = .ok (.ifCond .ge 6, 3) := by decide +kernel
theorem dX12_raise_20 : decode cX12_raise 20 = .ok (.bipush (-2), 2) := by decide +kernel
theorem dX12_raise_22 : decode cX12_raise 22 = .ok (.ireturn, 1) := by decide +kernel
theorem dX12_raise_23 : decode cX12_raise 23 = .ok (.iconst 0, 1) := by decide +kernel
theorem dX12_raise_24 : decode cX12_raise 24 = .ok (.istore_n 2, 1) := by decide +kernel
theorem dX12_raise_25 : decode cX12_raise 25 = .ok (.iconst 0, 1) := by decide +kernel
theorem dX12_raise_26 : decode cX12_raise 26 = .ok (.istore_n 3, 1) := by decide +kernel
theorem dX12_raise_27 : decode cX12_raise 27 = .ok (.iload_n 3, 1) := by decide +kernel
theorem dX12_raise_28 : decode cX12_raise 28 = .ok (.aload_n 0, 1) := by decide +kernel
theorem dX12_raise_29 : decode cX12_raise 29 = .ok (.getfield 193, 3) := by decide +kernel
theorem dX12_raise_32 : decode cX12_raise 32 = .ok (.if_icmp .ge 56, 3) := by decide +kernel
theorem dX12_raise_35 : decode cX12_raise 35 = .ok (.aload_n 0, 1) := by decide +kernel
theorem dX12_raise_36 : decode cX12_raise 36 = .ok (.getfield 202, 3) := by decide +kernel
theorem dX12_raise_39 : decode cX12_raise 39 = .ok (.iload_n 3, 1) := by decide +kernel
theorem dX12_raise_40 : decode cX12_raise 40 = .ok (.iaload, 1) := by decide +kernel
theorem dX12_raise_41 : decode cX12_raise 41 = .ok (.aload_n 0, 1) := by decide +kernel
theorem dX12_raise_42 : decode cX12_raise 42 = .ok (.getfield 450, 3) := by decide +kernel
theorem dX12_raise_45 : decode cX12_raise 45 = .ok (.iload_n 1, 1) := by decide +kernel
theorem dX12_raise_46 : decode cX12_raise 46 = .ok (.iadd, 1) := by decide +kernel
theorem dX12_raise_47 : decode cX12_raise 47 = .ok (.if_icmp .gt 35, 3) := by decide +kernel
theorem dX12_raise_50 : decode cX12_raise 50 = .ok (.aload_n 0, 1) := by decide +kernel
theorem dX12_raise_51 : decode cX12_raise 51 = .ok (.getfield 62, 3) := by decide +kernel
theorem dX12_raise_54 : decode cX12_raise 54 = .ok (.aload_n 0, 1) := by decide +kernel
theorem dX12_raise_55 : decode cX12_raise 55 = .ok (.getfield 196, 3) := by decide +kernel
theorem dX12_raise_58 : decode cX12_raise 58 = .ok (.iload_n 3, 1) := by decide +kernel
theorem dX12_raise_59 : decode cX12_raise 59 = .ok (.iaload, 1) := by decide +kernel
theorem dX12_raise_60 : decode cX12_raise 60 = .ok (.baload, 1) := by decide +kernel
theorem dX12_raise_61 : decode cX12_raise 61 = .ok (.ifCond .ne 6, 3) := by decide +kernel
theorem dX12_raise_64 : decode cX12_raise 64 = .ok (.goto 18, 3) := by decide +kernel
theorem dX12_raise_67 : decode cX12_raise 67 = .ok (.aload_n 0, 1) := by decide +kernel
theorem dX12_raise_68 : decode cX12_raise 68 = .ok (.getfield 62, 3) := by decide +kernel
theorem dX12_raise_71 : decode cX12_raise 71 = .ok (.aload_n 0, 1) := by decide +kernel
theorem dX12_raise_72 : decode cX12_raise 72 = .ok (.getfield 196, 3) := by decide +kernel
theorem dX12_raise_75 : decode cX12_raise 75 = .ok (.iload_n 3, 1) := by decide +kernel
theorem dX12_raise_76 : decode cX12_raise 76 = .ok (.iaload, 1) := by decide +kernel
theorem dX12_raise_77 : decode cX12_raise 77 = .ok (.iconst 0, 1) := by decide +kernel
theorem dX12_raise_78 : decode cX12_raise 78 = .ok (.bastore, 1) := by decide +kernel
theorem dX12_raise_79 : decode cX12_raise 79 = .ok (.iinc 2 1, 3) := by decide +kernel
theorem dX12_raise_82 : decode cX12_raise 82 = .ok (.iinc 3 1, 3) := by decide +kernel
theorem dX12_raise_85 : decode cX12_raise 85 = .ok (.goto (-58), 3) := by decide +kernel
theorem dX12_raise_88 : decode cX12_raise 88 = .ok (.iload_n 2, 1) := by decide +kernel
theorem dX12_raise_89 : decode cX12_raise 89 = .ok (.ireturn, 1) := by decide +kernel
theorem dX12_ran_0 : decode cX12_ran 0 = .ok (.aload_n 0, 1) := by decide +kernel
theorem dX12_ran_1 : decode cX12_ran 1 = .ok (.getfield 453, 3) := by decide +kernel
theorem dX12_ran_4 : decode cX12_ran 4 = .ok (.bipush 24, 2) := by decide +kernel
theorem dX12_ran_6 : decode cX12_ran 6 = .ok (.if_icmp .ge 13, 3) := by decide +kernel
theorem dX12_ran_9 : decode cX12_ran 9 = .ok (.aload_n 0, 1) := by decide +kernel
theorem dX12_ran_10 : decode cX12_ran 10 = .ok (.getfield 205, 3) := by decide +kernel
theorem dX12_ran_13 : decode cX12_ran 13 = .ok (.aload_n 0, 1) := by decide +kernel
theorem dX12_ran_14 : decode cX12_ran 14 = .ok (.getfield 453, 3) := by decide +kernel
theorem dX12_ran_17 : decode cX12_ran 17 = .ok (.iload_n 1, 1) := by decide +kernel
theorem dX12_ran_18 : decode cX12_ran 18 = .ok (.iastore, 1) := by decide +kernel
theorem dX12_ran_19 : decode cX12_ran 19 = .ok (.aload_n 0, 1) := by decide +kernel
theorem dX12_ran_20 : decode cX12_ran 20 = .ok (.dup, 1) := by decide +kernel
theorem dX12_ran_21 : decode cX12_ran 21 = .ok (.getfield 453, 3) := by decide +kernel
theorem dX12_ran_24 : decode cX12_ran 24 = .ok (.iconst 1, 1) := by decide +kernel
theorem dX12_ran_25 : decode cX12_ran 25 = .ok (.iadd, 1) := by decide +kernel
theorem dX12_ran_26 : decode cX12_ran 26 = .ok (.putfield 453, 3) := by decide +kernel
theorem dX12_ran_29 : decode cX12_ran 29 = .ok (.return_, 1) := by decide +kernel
theorem dX12_plainBores_0 : decode cX12_plainBores 0 = .ok (.aload_n 0, 1) := by decide +kernel
theorem dX12_plainBores_1 : decode cX12_plainBores 1 = .ok (.iconst 1, 1) := by decide +kernel
theorem dX12_plainBores_2 : decode cX12_plainBores 2 = .ok (.invokevirtual 456, 3) := by decide +kernel
theorem dX12_plainBores_5 : decode cX12_plainBores 5 = .ok (.iload_n 2, 1) := by decide +kernel
theorem dX12_plainBores_6 : decode cX12_plainBores 6 = .ok (.iload_n 1, 1) := by decide +kernel
theorem dX12_plainBores_7 : decode cX12_plainBores 7 = .ok (.iadd, 1) := by decide +kernel
theorem dX12_plainBores_8 : decode cX12_plainBores 8 = .ok (.ireturn, 1) := by decide +kernel
theorem dX12_wayBores_0 : decode cX12_wayBores 0 = .ok (.aload_n 0, 1) := by decide +kernel
theorem dX12_wayBores_1 : decode cX12_wayBores 1 = .ok (.bipush 20, 2) := by decide +kernel
theorem dX12_wayBores_3 : decode cX12_wayBores 3 = .ok (.invokevirtual 456, 3) := by decide +kernel
theorem dX12_wayBores_6 : decode cX12_wayBores 6 = .ok (.aload_n 0, 1) := by decide +kernel
theorem dX12_wayBores_7 : decode cX12_wayBores 7 = .ok (.iload_n 1, 1) := by decide +kernel
theorem dX12_wayBores_8 : decode cX12_wayBores 8 = .ok (.iload_n 2, 1) := by decide +kernel
theorem dX12_wayBores_9 : decode cX12_wayBores 9 = .ok (.invokevirtual 460, 3) := by decide +kernel
theorem dX12_wayBores_12 : decode cX12_wayBores 12 = .ok (.iconst 2, 1) := by decide +kernel
theorem dX12_wayBores_13 : decode cX12_wayBores 13 = .ok (.imul, 1) := by decide +kernel
theorem dX12_wayBores_14 : decode cX12_wayBores 14 = .ok (.ireturn, 1) := by decide +kernel
theorem dX12_shaftBores_0 : decode cX12_shaftBores 0 = .ok (.aload_n 0, 1) := by decide +kernel
theorem dX12_shaftBores_1 : decode cX12_shaftBores 1 = .ok (.bipush 50, 2) := by decide +kernel
theorem dX12_shaftBores_3 : decode cX12_shaftBores 3 = .ok (.invokevirtual 456, 3) := by decide +kernel
theorem dX12_shaftBores_6 : decode cX12_shaftBores 6 = .ok (.aload_n 0, 1) := by decide +kernel
theorem dX12_shaftBores_7 : decode cX12_shaftBores 7 = .ok (.iload_n 1, 1) := by decide +kernel
theorem dX12_shaftBores_8 : decode cX12_shaftBores 8 = .ok (.iload_n 2, 1) := by decide +kernel
theorem dX12_shaftBores_9 : decode cX12_shaftBores 9 = .ok (.iconst 1, 1) := by decide +kernel
theorem dX12_shaftBores_10 : decode cX12_shaftBores 10 = .ok (.iadd, 1) := by decide +kernel
theorem dX12_shaftBores_11 : decode cX12_shaftBores 11 = .ok (.invokevirtual 463, 3) := by decide +kernel
theorem dX12_shaftBores_14 : decode cX12_shaftBores 14 = .ok (.ireturn, 1) := by decide +kernel
theorem dX12_bores_0 : decode cX12_bores 0 = .ok (.aload_n 0, 1) := by decide +kernel
theorem dX12_bores_1 : decode cX12_bores 1 = .ok (.getfield 17, 3) := by decide +kernel
theorem dX12_bores_4 : decode cX12_bores 4 = .ok (.iload_n 1, 1) := by decide +kernel
theorem dX12_bores_5 : decode cX12_bores 5 = .ok (.iaload, 1) := by decide +kernel
theorem dX12_bores_6 : decode cX12_bores 6 = .ok (.iconst 5, 1) := by decide +kernel
theorem dX12_bores_7 : decode cX12_bores 7 = .ok (.if_icmp .ne 19, 3) := by decide +kernel
theorem dX12_bores_10 : decode cX12_bores 10 = .ok (.aload_n 0, 1) := by decide +kernel
theorem dX12_bores_11 : decode cX12_bores 11 = .ok (.bipush 61, 2) := by decide +kernel
theorem dX12_bores_13 : decode cX12_bores 13 = .ok (.invokevirtual 456, 3) := by decide +kernel
theorem dX12_bores_16 : decode cX12_bores 16 = .ok (.aload_n 0, 1) := by decide +kernel
theorem dX12_bores_17 : decode cX12_bores 17 = .ok (.iload_n 1, 1) := by decide +kernel
theorem dX12_bores_18 : decode cX12_bores 18 = .ok (.iload_n 2, 1) := by decide +kernel
theorem dX12_bores_19 : decode cX12_bores 19 = .ok (.invokevirtual 466, 3) := by decide +kernel
theorem dX12_bores_22 : decode cX12_bores 22 = .ok (.bipush 7, 2) := by decide +kernel
theorem dX12_bores_24 : decode cX12_bores 24 = .ok (.ixor, 1) := by decide +kernel
theorem dX12_bores_25 : decode cX12_bores 25 = .ok (.ireturn, 1) := by decide +kernel
theorem dX12_bores_26 : decode cX12_bores 26 = .ok (.aload_n 0, 1) := by decide +kernel
theorem dX12_bores_27 : decode cX12_bores 27 = .ok (.getfield 17, 3) := by decide +kernel
theorem dX12_bores_30 : decode cX12_bores 30 = .ok (.iload_n 1, 1) := by decide +kernel
theorem dX12_bores_31 : decode cX12_bores 31 = .ok (.iaload, 1) := by decide +kernel
theorem dX12_bores_32 : decode cX12_bores 32 = .ok (.iconst 4, 1) := by decide +kernel
theorem dX12_bores_33 : decode cX12_bores 33 = .ok (.if_icmp .ne 10, 3) := by decide +kernel
theorem dX12_bores_36 : decode cX12_bores 36 = .ok (.aload_n 0, 1) := by decide +kernel
theorem dX12_bores_37 : decode cX12_bores 37 = .ok (.iload_n 1, 1) := by decide +kernel
theorem dX12_bores_38 : decode cX12_bores 38 = .ok (.iload_n 2, 1) := by decide +kernel
theorem dX12_bores_39 : decode cX12_bores 39 = .ok (.invokevirtual 466, 3) := by decide +kernel
theorem dX12_bores_42 : decode cX12_bores 42 = .ok (.ireturn, 1) := by decide +kernel
theorem dX12_bores_43 : decode cX12_bores 43 = .ok (.aload_n 0, 1) := by decide +kernel
theorem dX12_bores_44 : decode cX12_bores 44 = .ok (.getfield 17, 3) := by decide +kernel
theorem dX12_bores_47 : decode cX12_bores 47 = .ok (.iload_n 1, 1) := by decide +kernel
theorem dX12_bores_48 : decode cX12_bores 48 = .ok (.iaload, 1) := by decide +kernel
theorem dX12_bores_49 : decode cX12_bores 49 = .ok (.iconst 1, 1) := by decide +kernel
theorem dX12_bores_50 : decode cX12_bores 50 = .ok (.invokestatic 248, 3) := by decide +kernel
theorem dX12_bores_53 : decode cX12_bores 53 = .ok (.ifCond .eq 12, 3) := by decide +kernel
theorem dX12_bores_56 : decode cX12_bores 56 = .ok (.aload_n 0, 1) := by decide +kernel
theorem dX12_bores_57 : decode cX12_bores 57 = .ok (.iload_n 1, 1) := by decide +kernel
theorem dX12_bores_58 : decode cX12_bores 58 = .ok (.iload_n 2, 1) := by decide +kernel
theorem dX12_bores_59 : decode cX12_bores 59 = .ok (.invokevirtual 463, 3) := by decide +kernel
theorem dX12_bores_62 : decode cX12_bores 62 = .ok (.goto 9, 3) := by decide +kernel
theorem dX12_bores_65 : decode cX12_bores 65 = .ok (.aload_n 0, 1) := by decide +kernel
theorem dX12_bores_66 : decode cX12_bores 66 = .ok (.iload_n 1, 1) := by decide +kernel
theorem dX12_bores_67 : decode cX12_bores 67 = .ok (.iload_n 2, 1) := by decide +kernel
theorem dX12_bores_68 : decode cX12_bores 68 = .ok (.invokevirtual 460, 3) := by decide +kernel
theorem dX12_bores_71 : decode cX12_bores 71 = .ok (.ireturn, 1) := by decide +kernel
theorem dX12_plainCarries_0 : decode cX12_plainCarries 0 = .ok (.aload_n 0, 1) := by decide +kernel
theorem dX12_plainCarries_1 : decode cX12_plainCarries 1 = .ok (.bipush 10, 2) := by decide +kernel
theorem dX12_plainCarries_3 : decode cX12_plainCarries 3 = .ok (.invokevirtual 456, 3) := by decide +kernel
theorem dX12_plainCarries_6 : decode cX12_plainCarries 6 = .ok (.aload_n 0, 1) := by decide +kernel
theorem dX12_plainCarries_7 : decode cX12_plainCarries 7 = .ok (.iload_n 1, 1) := by decide +kernel
theorem dX12_plainCarries_8 : decode cX12_plainCarries 8 = .ok (.iload_n 2, 1) := by decide +kernel
theorem dX12_plainCarries_9 : decode cX12_plainCarries 9 = .ok (.invokevirtual 469, 3) := by decide +kernel
theorem dX12_plainCarries_12 : decode cX12_plainCarries 12 = .ok (.iconst 1, 1) := by decide +kernel
theorem dX12_plainCarries_13 : decode cX12_plainCarries 13 = .ok (.isub, 1) := by decide +kernel
theorem dX12_plainCarries_14 : decode cX12_plainCarries 14 = .ok (.ireturn, 1) := by decide +kernel
theorem dX12_carries_0 : decode cX12_carries 0 = .ok (.aload_n 0, 1) := by decide +kernel
theorem dX12_carries_1 : decode cX12_carries 1 = .ok (.getfield 17, 3) := by decide +kernel
theorem dX12_carries_4 : decode cX12_carries 4 = .ok (.iload_n 1, 1) := by decide +kernel
theorem dX12_carries_5 : decode cX12_carries 5 = .ok (.iaload, 1) := by decide +kernel
theorem dX12_carries_6 : decode cX12_carries 6 = .ok (.iconst 2, 1) := by decide +kernel
theorem dX12_carries_7 : decode cX12_carries 7 = .ok (.invokestatic 248, 3) := by decide +kernel
theorem dX12_carries_10 : decode cX12_carries 10 = .ok (.ifCond .eq 23, 3) := by decide +kernel
theorem dX12_carries_13 : decode cX12_carries 13 = .ok (.aload_n 0, 1) := by decide +kernel
theorem dX12_carries_14 : decode cX12_carries 14 = .ok (.bipush 30, 2) := by decide +kernel
theorem dX12_carries_16 : decode cX12_carries 16 = .ok (.invokevirtual 456, 3) := by decide +kernel
theorem dX12_carries_19 : decode cX12_carries 19 = .ok (.aload_n 0, 1) := by decide +kernel
theorem dX12_carries_20 : decode cX12_carries 20 = .ok (.iload_n 1, 1) := by decide +kernel
theorem dX12_carries_21 : decode cX12_carries 21 = .ok (.iload_n 2, 1) := by decide +kernel
theorem dX12_carries_22 : decode cX12_carries 22 = .ok (.invokevirtual 472, 3) := by decide +kernel
theorem dX12_carries_25 : decode cX12_carries 25 = .ok (.aload_n 0, 1) := by decide +kernel
theorem dX12_carries_26 : decode cX12_carries 26 = .ok (.getfield 23, 3) := by decide +kernel
theorem dX12_carries_29 : decode cX12_carries 29 = .ok (.iload_n 1, 1) := by decide +kernel
theorem dX12_carries_30 : decode cX12_carries 30 = .ok (.iaload, 1) := by decide +kernel
theorem dX12_carries_31 : decode cX12_carries 31 = .ok (.iadd, 1) := by decide +kernel
theorem dX12_carries_32 : decode cX12_carries 32 = .ok (.ireturn, 1) := by decide +kernel
theorem dX12_carries_33 : decode cX12_carries 33 = .ok (.aload_n 0, 1) := by decide +kernel
theorem dX12_carries_34 : decode cX12_carries 34 = .ok (.getfield 17, 3) := by decide +kernel
theorem dX12_carries_37 : decode cX12_carries 37 = .ok (.iload_n 1, 1) := by decide +kernel
theorem dX12_carries_38 : decode cX12_carries 38 = .ok (.iaload, 1) := by decide +kernel
theorem dX12_carries_39 : decode cX12_carries 39 = .ok (.bipush 7, 2) := by decide +kernel
theorem dX12_carries_41 : decode cX12_carries 41 = .ok (.if_icmp .ne 23, 3) := by decide +kernel
theorem dX12_carries_44 : decode cX12_carries 44 = .ok (.aload_n 0, 1) := by decide +kernel
theorem dX12_carries_45 : decode cX12_carries 45 = .ok (.bipush 80, 2) := by decide +kernel
theorem dX12_carries_47 : decode cX12_carries 47 = .ok (.invokevirtual 456, 3) := by decide +kernel
theorem dX12_carries_50 : decode cX12_carries 50 = .ok (.aload_n 0, 1) := by decide +kernel
theorem dX12_carries_51 : decode cX12_carries 51 = .ok (.iload_n 1, 1) := by decide +kernel
theorem dX12_carries_52 : decode cX12_carries 52 = .ok (.iload_n 2, 1) := by decide +kernel
theorem dX12_carries_53 : decode cX12_carries 53 = .ok (.invokevirtual 472, 3) := by decide +kernel
theorem dX12_carries_56 : decode cX12_carries 56 = .ok (.aload_n 0, 1) := by decide +kernel
theorem dX12_carries_57 : decode cX12_carries 57 = .ok (.getfield 53, 3) := by decide +kernel
theorem dX12_carries_60 : decode cX12_carries 60 = .ok (.iload_n 1, 1) := by decide +kernel
theorem dX12_carries_61 : decode cX12_carries 61 = .ok (.iaload, 1) := by decide +kernel
theorem dX12_carries_62 : decode cX12_carries 62 = .ok (.isub, 1) := by decide +kernel
theorem dX12_carries_63 : decode cX12_carries 63 = .ok (.ireturn, 1) := by decide +kernel
theorem dX12_carries_64 : decode cX12_carries 64 = .ok (.aload_n 0, 1) := by decide +kernel
theorem dX12_carries_65 : decode cX12_carries 65 = .ok (.iload_n 1, 1) := by decide +kernel
theorem dX12_carries_66 : decode cX12_carries 66 = .ok (.iload_n 2, 1) := by decide +kernel
theorem dX12_carries_67 : decode cX12_carries 67 = .ok (.invokevirtual 472, 3) := by decide +kernel
theorem dX12_carries_70 : decode cX12_carries 70 = .ok (.ireturn, 1) := by decide +kernel
theorem dX12_plainHolds_0 : decode cX12_plainHolds 0 = .ok (.aload_n 0, 1) := by decide +kernel
theorem dX12_plainHolds_1 : decode cX12_plainHolds 1 = .ok (.bipush 11, 2) := by decide +kernel
theorem dX12_plainHolds_3 : decode cX12_plainHolds 3 = .ok (.invokevirtual 456, 3) := by decide +kernel
theorem dX12_plainHolds_6 : decode cX12_plainHolds 6 = .ok (.iload_n 2, 1) := by decide +kernel
theorem dX12_plainHolds_7 : decode cX12_plainHolds 7 = .ok (.iload_n 1, 1) := by decide +kernel
theorem dX12_plainHolds_8 : decode cX12_plainHolds 8 = .ok (.ixor, 1) := by decide +kernel
theorem dX12_plainHolds_9 : decode cX12_plainHolds 9 = .ok (.ireturn, 1) := by decide +kernel
theorem dX12_holdsBy_0 : decode cX12_holdsBy 0 = .ok (.aload_n 0, 1) := by decide +kernel
theorem dX12_holdsBy_1 : decode cX12_holdsBy 1 = .ok (.getfield 17, 3) := by decide +kernel
theorem dX12_holdsBy_4 : decode cX12_holdsBy 4 = .ok (.iload_n 1, 1) := by decide +kernel
theorem dX12_holdsBy_5 : decode cX12_holdsBy 5 = .ok (.iaload, 1) := by decide +kernel
theorem dX12_holdsBy_6 : decode cX12_holdsBy 6 = .ok (.tableswitch 88 3 6 #[30, 88, 52, 66], 30) := by decide +kernel
theorem dX12_holdsBy_36 : decode cX12_holdsBy 36 = .ok (.aload_n 0, 1) := by decide +kernel
theorem dX12_holdsBy_37 : decode cX12_holdsBy 37 = .ok (.bipush 40, 2) := by decide +kernel
theorem dX12_holdsBy_39 : decode cX12_holdsBy 39 = .ok (.invokevirtual 456, 3) := by decide +kernel
theorem dX12_holdsBy_42 : decode cX12_holdsBy 42 = .ok (.aload_n 0, 1) := by decide +kernel
theorem dX12_holdsBy_43 : decode cX12_holdsBy 43 = .ok (.iload_n 1, 1) := by decide +kernel
theorem dX12_holdsBy_44 : decode cX12_holdsBy 44 = .ok (.iload_n 2, 1) := by decide +kernel
theorem dX12_holdsBy_45 : decode cX12_holdsBy 45 = .ok (.invokevirtual 475, 3) := by decide +kernel
theorem dX12_holdsBy_48 : decode cX12_holdsBy 48 = .ok (.istore_n 3, 1) := by decide +kernel
theorem dX12_holdsBy_49 : decode cX12_holdsBy 49 = .ok (.iload_n 3, 1) := by decide +kernel
theorem dX12_holdsBy_50 : decode cX12_holdsBy 50 = .ok (.aload_n 0, 1) := by decide +kernel
theorem dX12_holdsBy_51 : decode cX12_holdsBy 51 = .ok (.iload_n 1, 1) := by decide +kernel
theorem dX12_holdsBy_52 : decode cX12_holdsBy 52 = .ok (.iconst 1, 1) := by decide +kernel
theorem dX12_holdsBy_53 : decode cX12_holdsBy 53 = .ok (.invokevirtual 478, 3) := by decide +kernel
theorem dX12_holdsBy_56 : decode cX12_holdsBy 56 = .ok (.isub, 1) := by decide +kernel
theorem dX12_holdsBy_57 : decode cX12_holdsBy 57 = .ok (.ireturn, 1) := by decide +kernel
theorem dX12_holdsBy_58 : decode cX12_holdsBy 58 = .ok (.aload_n 0, 1) := by decide +kernel
theorem dX12_holdsBy_59 : decode cX12_holdsBy 59 = .ok (.bipush 60, 2) := by decide +kernel
theorem dX12_holdsBy_61 : decode cX12_holdsBy 61 = .ok (.invokevirtual 456, 3) := by decide +kernel
theorem dX12_holdsBy_64 : decode cX12_holdsBy 64 = .ok (.aload_n 0, 1) := by decide +kernel
theorem dX12_holdsBy_65 : decode cX12_holdsBy 65 = .ok (.iload_n 1, 1) := by decide +kernel
theorem dX12_holdsBy_66 : decode cX12_holdsBy 66 = .ok (.iload_n 2, 1) := by decide +kernel
theorem dX12_holdsBy_67 : decode cX12_holdsBy 67 = .ok (.invokevirtual 475, 3) := by decide +kernel
theorem dX12_holdsBy_70 : decode cX12_holdsBy 70 = .ok (.ineg, 1) := by decide +kernel
theorem dX12_holdsBy_71 : decode cX12_holdsBy 71 = .ok (.ireturn, 1) := by decide +kernel
theorem dX12_holdsBy_72 : decode cX12_holdsBy 72 = .ok (.aload_n 0, 1) := by decide +kernel
theorem dX12_holdsBy_73 : decode cX12_holdsBy 73 = .ok (.bipush 70, 2) := by decide +kernel
theorem dX12_holdsBy_75 : decode cX12_holdsBy 75 = .ok (.invokevirtual 456, 3) := by decide +kernel
theorem dX12_holdsBy_78 : decode cX12_holdsBy 78 = .ok (.aload_n 0, 1) := by decide +kernel
theorem dX12_holdsBy_79 : decode cX12_holdsBy 79 = .ok (.iload_n 1, 1) := by decide +kernel
theorem dX12_holdsBy_80 : decode cX12_holdsBy 80 = .ok (.iload_n 2, 1) := by decide +kernel
theorem dX12_holdsBy_81 : decode cX12_holdsBy 81 = .ok (.invokevirtual 475, 3) := by decide +kernel
theorem dX12_holdsBy_84 : decode cX12_holdsBy 84 = .ok (.istore_n 3, 1) := by decide +kernel
theorem dX12_holdsBy_85 : decode cX12_holdsBy 85 = .ok (.iload_n 3, 1) := by decide +kernel
theorem dX12_holdsBy_86 : decode cX12_holdsBy 86 = .ok (.aload_n 0, 1) := by decide +kernel
theorem dX12_holdsBy_87 : decode cX12_holdsBy 87 = .ok (.iload_n 1, 1) := by decide +kernel
theorem dX12_holdsBy_88 : decode cX12_holdsBy 88 = .ok (.iload_n 2, 1) := by decide +kernel
theorem dX12_holdsBy_89 : decode cX12_holdsBy 89 = .ok (.invokevirtual 472, 3) := by decide +kernel
theorem dX12_holdsBy_92 : decode cX12_holdsBy 92 = .ok (.iadd, 1) := by decide +kernel
theorem dX12_holdsBy_93 : decode cX12_holdsBy 93 = .ok (.ireturn, 1) := by decide +kernel
theorem dX12_holdsBy_94 : decode cX12_holdsBy 94 = .ok (.aload_n 0, 1) := by decide +kernel
theorem dX12_holdsBy_95 : decode cX12_holdsBy 95 = .ok (.iload_n 1, 1) := by decide +kernel
theorem dX12_holdsBy_96 : decode cX12_holdsBy 96 = .ok (.iload_n 2, 1) := by decide +kernel
theorem dX12_holdsBy_97 : decode cX12_holdsBy 97 = .ok (.invokevirtual 475, 3) := by decide +kernel
theorem dX12_holdsBy_100 : decode cX12_holdsBy 100 = .ok (.ireturn, 1) := by decide +kernel
theorem dX12_plainTells_0 : decode cX12_plainTells 0 = .ok (.aload_n 0, 1) := by decide +kernel
theorem dX12_plainTells_1 : decode cX12_plainTells 1 = .ok (.iconst 2, 1) := by decide +kernel
theorem dX12_plainTells_2 : decode cX12_plainTells 2 = .ok (.invokevirtual 456, 3) := by decide +kernel
theorem dX12_plainTells_5 : decode cX12_plainTells 5 = .ok (.aload_n 0, 1) := by decide +kernel
theorem dX12_plainTells_6 : decode cX12_plainTells 6 = .ok (.iload_n 1, 1) := by decide +kernel
theorem dX12_plainTells_7 : decode cX12_plainTells 7 = .ok (.iload_n 2, 1) := by decide +kernel
theorem dX12_plainTells_8 : decode cX12_plainTells 8 = .ok (.invokevirtual 478, 3) := by decide +kernel
theorem dX12_plainTells_11 : decode cX12_plainTells 11 = .ok (.istore_n 3, 1) := by decide +kernel
theorem dX12_plainTells_12 : decode cX12_plainTells 12 = .ok (.iload_n 3, 1) := by decide +kernel
theorem dX12_plainTells_13 : decode cX12_plainTells 13 = .ok (.aload_n 0, 1) := by decide +kernel
theorem dX12_plainTells_14 : decode cX12_plainTells 14 = .ok (.iload_n 1, 1) := by decide +kernel
theorem dX12_plainTells_15 : decode cX12_plainTells 15 = .ok (.iconst 1, 1) := by decide +kernel
theorem dX12_plainTells_16 : decode cX12_plainTells 16 = .ok (.invokevirtual 481, 3) := by decide +kernel
theorem dX12_plainTells_19 : decode cX12_plainTells 19 = .ok (.iadd, 1) := by decide +kernel
theorem dX12_plainTells_20 : decode cX12_plainTells 20 = .ok (.ireturn, 1) := by decide +kernel
theorem dX12_tells_0 : decode cX12_tells 0 = .ok (.aload_n 0, 1) := by decide +kernel
theorem dX12_tells_1 : decode cX12_tells 1 = .ok (.getfield 17, 3) := by decide +kernel
theorem dX12_tells_4 : decode cX12_tells 4 = .ok (.iload_n 1, 1) := by decide +kernel
theorem dX12_tells_5 : decode cX12_tells 5 = .ok (.iaload, 1) := by decide +kernel
theorem dX12_tells_6 : decode cX12_tells 6 = .ok (.iconst 4, 1) := by decide +kernel
theorem dX12_tells_7 : decode cX12_tells 7 = .ok (.invokestatic 248, 3) := by decide +kernel
theorem dX12_tells_10 : decode cX12_tells 10 = .ok (.ifCond .eq 18, 3) := by decide +kernel
theorem dX12_tells_13 : decode cX12_tells 13 = .ok (.aload_n 0, 1) := by decide +kernel
theorem dX12_tells_14 : decode cX12_tells 14 = .ok (.bipush 51, 2) := by decide +kernel
theorem dX12_tells_16 : decode cX12_tells 16 = .ok (.invokevirtual 456, 3) := by decide +kernel
theorem dX12_tells_19 : decode cX12_tells 19 = .ok (.aload_n 0, 1) := by decide +kernel
theorem dX12_tells_20 : decode cX12_tells 20 = .ok (.iload_n 1, 1) := by decide +kernel
theorem dX12_tells_21 : decode cX12_tells 21 = .ok (.iload_n 2, 1) := by decide +kernel
theorem dX12_tells_22 : decode cX12_tells 22 = .ok (.invokevirtual 484, 3) := by decide +kernel
theorem dX12_tells_25 : decode cX12_tells 25 = .ok (.iconst 3, 1) := by decide +kernel
theorem dX12_tells_26 : decode cX12_tells 26 = .ok (.imul, 1) := by decide +kernel
theorem dX12_tells_27 : decode cX12_tells 27 = .ok (.ireturn, 1) := by decide +kernel
theorem dX12_tells_28 : decode cX12_tells 28 = .ok (.aload_n 0, 1) := by decide +kernel
theorem dX12_tells_29 : decode cX12_tells 29 = .ok (.iload_n 1, 1) := by decide +kernel
theorem dX12_tells_30 : decode cX12_tells 30 = .ok (.iload_n 2, 1) := by decide +kernel
theorem dX12_tells_31 : decode cX12_tells 31 = .ok (.invokevirtual 484, 3) := by decide +kernel
theorem dX12_tells_34 : decode cX12_tells 34 = .ok (.ireturn, 1) := by decide +kernel
theorem dX12_act_0 : decode cX12_act 0 = .ok (.aload_n 0, 1) := by decide +kernel
theorem dX12_act_1 : decode cX12_act 1 = .ok (.iconst 0, 1) := by decide +kernel
theorem dX12_act_2 : decode cX12_act 2 = .ok (.putfield 453, 3) := by decide +kernel
theorem dX12_act_5 : decode cX12_act 5 = .ok (.aload_n 0, 1) := by decide +kernel
theorem dX12_act_6 : decode cX12_act 6 = .ok (.iload_n 1, 1) := by decide +kernel
theorem dX12_act_7 : decode cX12_act 7 = .ok (.invokevirtual 245, 3) := by decide +kernel
theorem dX12_act_10 : decode cX12_act 10 = .ok (.ifCond .eq 12, 3) := by decide +kernel
theorem dX12_act_13 : decode cX12_act 13 = .ok (.iload_n 2, 1) := by decide +kernel
theorem dX12_act_14 : decode cX12_act 14 = .ok (.iconst 0, 1) := by decide +kernel
