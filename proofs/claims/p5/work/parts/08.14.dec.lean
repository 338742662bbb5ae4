theorem dX12_spread_22 : decode cX12_spread 22 = .ok (.iload_n 2, 1) := by decide +kernel
theorem dX12_spread_23 : decode cX12_spread 23 = .ok (.ireturn, 1) := by decide +kernel
theorem dX12_log_0 : decode cX12_log 0 = .ok (.aload_n 0, 1) := by decide +kernel
theorem dX12_log_1 : decode cX12_log 1 = .ok (.iload_n 1, 1) := by decide +kernel
theorem dX12_log_2 : decode cX12_log 2 = .ok (.invokevirtual 268, 3) := by decide +kernel
theorem dX12_log_5 : decode cX12_log 5 = .ok (.ifCond .eq 32, 3) := by decide +kernel
theorem dX12_log_8 : decode cX12_log 8 = .ok (.iload_n 2, 1) := by decide +kernel
theorem dX12_log_9 : decode cX12_log 9 = .ok (.invokestatic 288, 3) := by decide +kernel
theorem dX12_log_12 : decode cX12_log 12 = .ok (.ifCond .eq 25, 3) := by decide +kernel
theorem dX12_log_15 : decode cX12_log 15 = .ok (.iload 4, 2) := by decide +kernel
theorem dX12_log_17 : decode cX12_log 17 = .ok (.iconst 1, 1) := by decide +kernel
theorem dX12_log_18 : decode cX12_log 18 = .ok (.bipush 60, 2) := by decide +kernel
theorem dX12_log_20 : decode cX12_log 20 = .ok (.invokestatic 230, 3) := by decide +kernel
theorem dX12_log_23 : decode cX12_log 23 = .ok (.ifCond .eq 14, 3) := by decide +kernel
theorem dX12_log_26 : decode cX12_log 26 = .ok (.iload 5, 2) := by decide +kernel
theorem dX12_log_28 : decode cX12_log 28 = .ok (.iconst 1, 1) := by decide +kernel
theorem dX12_log_29 : decode cX12_log 29 = .ok (.bipush 60, 2) := by decide +kernel
theorem dX12_log_31 : decode cX12_log 31 = .ok (.invokestatic 230, 3) := by decide +kernel
theorem dX12_log_34 : decode cX12_log 34 = .ok (.ifCond .ne 5, 3) := by decide +kernel
theorem dX12_log_37 : decode cX12_log 37 = .ok (.iconst (-1), 1) := by decide +kernel
theorem dX12_log_38 : decode cX12_log 38 = .ok (.ireturn, 1) := by decide +kernel
theorem dX12_log_39 : decode cX12_log 39 = .ok (.aload_n 0, 1) := by decide +kernel
theorem dX12_log_40 : decode cX12_log 40 = .ok (.getfield 208, 3) := by decide +kernel
theorem dX12_log_43 : decode cX12_log 43 = .ok (.iload_n 2, 1) := by decide +kernel
theorem dX12_log_44 : decode cX12_log 44 = .ok (.iaload, 1) := by decide +kernel
theorem dX12_log_45 : decode cX12_log 45 = .ok (.iconst (-1), 1) := by decide +kernel
theorem dX12_log_46 : decode cX12_log 46 = .ok (.if_icmp .eq 14, 3) := by decide +kernel
theorem dX12_log_49 : decode cX12_log 49 = .ok (.aload_n 0, 1) := by decide +kernel
theorem dX12_log_50 : decode cX12_log 50 = .ok (.iload_n 2, 1) := by decide +kernel
theorem dX12_log_51 : decode cX12_log 51 = .ok (.invokevirtual 291, 3) := by decide +kernel
theorem dX12_log_54 : decode cX12_log 54 = .ok (.ifCond .ne 6, 3) := by decide +kernel
theorem dX12_log_57 : decode cX12_log 57 = .ok (.bipush (-12), 2) := by decide +kernel
theorem dX12_log_59 : decode cX12_log 59 = .ok (.ireturn, 1) := by decide +kernel
theorem dX12_log_60 : decode cX12_log 60 = .ok (.iconst 0, 1) := by decide +kernel
theorem dX12_log_61 : decode cX12_log 61 = .ok (.istore 6, 2) := by decide +kernel
theorem dX12_log_63 : decode cX12_log 63 = .ok (.iload 6, 2) := by decide +kernel
theorem dX12_log_65 : decode cX12_log 65 = .ok (.iload 5, 2) := by decide +kernel
theorem dX12_log_67 : decode cX12_log 67 = .ok (.if_icmp .ge 198, 3) := by decide +kernel
theorem dX12_log_70 : decode cX12_log 70 = .ok (.iload 4, 2) := by decide +kernel
theorem dX12_log_72 : decode cX12_log 72 = .ok (.iload 6, 2) := by decide +kernel
theorem dX12_log_74 : decode cX12_log 74 = .ok (.iadd, 1) := by decide +kernel
theorem dX12_log_75 : decode cX12_log 75 = .ok (.istore 7, 2) := by decide +kernel
theorem dX12_log_77 : decode cX12_log 77 = .ok (.iload 7, 2) := by decide +kernel
theorem dX12_log_79 : decode cX12_log 79 = .ok (.bipush 60, 2) := by decide +kernel
theorem dX12_log_81 : decode cX12_log 81 = .ok (.if_icmp .le 6, 3) := by decide +kernel
theorem dX12_log_84 : decode cX12_log 84 = .ok (.iload 6, 2) := by decide +kernel
theorem dX12_log_86 : decode cX12_log 86 = .ok (.ireturn, 1) := by decide +kernel
theorem dX12_log_87 : decode cX12_log 87 = .ok (.iload_n 3, 1) := by decide +kernel
theorem dX12_log_88 : decode cX12_log 88 = .ok (.i2l, 1) := by decide +kernel
theorem dX12_log_89 : decode cX12_log 89 = .ok (.iload 6, 2) := by decide +kernel
theorem dX12_log_91 : decode cX12_log 91 = .ok (.i2l, 1) := by decide +kernel
theorem dX12_log_92 : decode cX12_log 92 = .ok (.ladd, 1) := by decide +kernel
theorem dX12_log_93 : decode cX12_log 93 = .ok (.lstore 8, 2) := by decide +kernel
theorem dX12_log_95 : decode cX12_log 95 = .ok (.aload_n 0, 1) := by decide +kernel
theorem dX12_log_96 : decode cX12_log 96 = .ok (.getfield 208, 3) := by decide +kernel
theorem dX12_log_99 : decode cX12_log 99 = .ok (.iload_n 2, 1) := by decide +kernel
theorem dX12_log_100 : decode cX12_log 100 = .ok (.iaload, 1) := by decide +kernel
theorem dX12_log_101 : decode cX12_log 101 = .ok (.iconst (-1), 1) := by decide +kernel
theorem dX12_log_102 : decode cX12_log 102 = .ok (.if_icmp .eq 23, 3) := by decide +kernel
theorem dX12_log_105 : decode cX12_log 105 = .ok (.lload 8, 2) := by decide +kernel
theorem dX12_log_107 : decode cX12_log 107 = .ok (.lconst 0, 1) := by decide +kernel
theorem dX12_log_108 : decode cX12_log 108 = .ok (.lcmp, 1) := by decide +kernel
theorem dX12_log_109 : decode cX12_log 109 = .ok (.ifCond .lt 16, 3) := by decide +kernel
theorem dX12_log_112 : decode cX12_log 112 = .ok (.lload 8, 2) := by decide +kernel
theorem dX12_log_114 : decode cX12_log 114 = .ok (.aload_n 0, 1) := by decide +kernel
theorem dX12_log_115 : decode cX12_log 115 = .ok (.getfield 211, 3) := by decide +kernel
theorem dX12_log_118 : decode cX12_log 118 = .ok (.iload_n 2, 1) := by decide +kernel
theorem dX12_log_119 : decode cX12_log 119 = .ok (.iaload, 1) := by decide +kernel
theorem dX12_log_120 : decode cX12_log 120 = .ok (.i2l, 1) := by decide +kernel
theorem dX12_log_121 : decode cX12_log 121 = .ok (.lcmp, 1) := by decide +kernel
theorem dX12_log_122 : decode cX12_log 122 = .ok (.ifCond .lt 36, 3) := by decide +kernel
theorem dX12_log_125 : decode cX12_log 125 = .ok (.iload 7, 2) := by decide +kernel
theorem dX12_log_127 : decode cX12_log 127 = .ok (.istore 10, 2) := by decide +kernel
theorem dX12_log_129 : decode cX12_log 129 = .ok (.iload 10, 2) := by decide +kernel
theorem dX12_log_131 : decode cX12_log 131 = .ok (.bipush 60, 2) := by decide +kernel
theorem dX12_log_133 : decode cX12_log 133 = .ok (.if_icmp .gt 22, 3) := by decide +kernel
theorem dX12_log_136 : decode cX12_log 136 = .ok (.aload_n 0, 1) := by decide +kernel
theorem dX12_log_137 : decode cX12_log 137 = .ok (.getfield 47, 3) := by decide +kernel
theorem dX12_log_140 : decode cX12_log 140 = .ok (.bipush 61, 2) := by decide +kernel
theorem dX12_log_142 : decode cX12_log 142 = .ok (.iload_n 1, 1) := by decide +kernel
theorem dX12_log_143 : decode cX12_log 143 = .ok (.imul, 1) := by decide +kernel
theorem dX12_log_144 : decode cX12_log 144 = .ok (.iload 10, 2) := by decide +kernel
theorem dX12_log_146 : decode cX12_log 146 = .ok (.iadd, 1) := by decide +kernel
theorem dX12_log_147 : decode cX12_log 147 = .ok (.iconst 0, 1) := by decide +kernel
theorem dX12_log_148 : decode cX12_log 148 = .ok (.bastore, 1) := by decide +kernel
theorem dX12_log_149 : decode cX12_log 149 = .ok (.iinc 10 1, 3) := by decide +kernel
theorem dX12_log_152 : decode cX12_log 152 = .ok (.goto (-23), 3) := by decide +kernel
theorem dX12_log_155 : decode cX12_log 155 = .ok (.iload 6, 2) := by decide +kernel
theorem dX12_log_157 : decode cX12_log 157 = .ok (.ireturn, 1) := by decide +kernel
theorem dX12_log_158 : decode cX12_log 158 = .ok (.bipush 60, 2) := by decide +kernel
theorem dX12_log_160 : decode cX12_log 160 = .ok (.iload_n 2, 1) := by decide +kernel
theorem dX12_log_161 : decode cX12_log 161 = .ok (.imul, 1) := by decide +kernel
theorem dX12_log_162 : decode cX12_log 162 = .ok (.lload 8, 2) := by decide +kernel
theorem dX12_log_164 : decode cX12_log 164 = .ok (.l2i, 1) := by decide +kernel
theorem dX12_log_165 : decode cX12_log 165 = .ok (.iadd, 1) := by decide +kernel
theorem dX12_log_166 : decode cX12_log 166 = .ok (.istore 10, 2) := by decide +kernel
theorem dX12_log_168 : decode cX12_log 168 = .ok (.iload 7, 2) := by decide +kernel
theorem dX12_log_170 : decode cX12_log 170 = .ok (.iconst 1, 1) := by decide +kernel
theorem dX12_log_171 : decode cX12_log 171 = .ok (.if_icmp .le 37, 3) := by decide +kernel
theorem dX12_log_174 : decode cX12_log 174 = .ok (.aload_n 0, 1) := by decide +kernel
theorem dX12_log_175 : decode cX12_log 175 = .ok (.getfield 47, 3) := by decide +kernel
theorem dX12_log_178 : decode cX12_log 178 = .ok (.bipush 61, 2) := by decide +kernel
theorem dX12_log_180 : decode cX12_log 180 = .ok (.iload_n 1, 1) := by decide +kernel
theorem dX12_log_181 : decode cX12_log 181 = .ok (.imul, 1) := by decide +kernel
theorem dX12_log_182 : decode cX12_log 182 = .ok (.iload 7, 2) := by decide +kernel
theorem dX12_log_184 : decode cX12_log 184 = .ok (.iadd, 1) := by decide +kernel
theorem dX12_log_185 : decode cX12_log 185 = .ok (.iconst 1, 1) := by decide +kernel
theorem dX12_log_186 : decode cX12_log 186 = .ok (.isub, 1) := by decide +kernel
theorem dX12_log_187 : decode cX12_log 187 = .ok (.baload, 1) := by decide +kernel
theorem dX12_log_188 : decode cX12_log 188 = .ok (.ifCond .eq 20, 3) := by decide +kernel
theorem dX12_log_191 : decode cX12_log 191 = .ok (.aload_n 0, 1) := by decide +kernel
theorem dX12_log_192 : decode cX12_log 192 = .ok (.getfield 50, 3) := by decide +kernel
theorem dX12_log_195 : decode cX12_log 195 = .ok (.bipush 61, 2) := by decide +kernel
theorem dX12_log_197 : decode cX12_log 197 = .ok (.iload_n 1, 1) := by decide +kernel
theorem dX12_log_198 : decode cX12_log 198 = .ok (.imul, 1) := by decide +kernel
theorem dX12_log_199 : decode cX12_log 199 = .ok (.iload 7, 2) := by decide +kernel
theorem dX12_log_201 : decode cX12_log 201 = .ok (.iadd, 1) := by decide +kernel
theorem dX12_log_202 : decode cX12_log 202 = .ok (.iconst 1, 1) := by decide +kernel
theorem dX12_log_203 : decode cX12_log 203 = .ok (.isub, 1) := by decide +kernel
theorem dX12_log_204 : decode cX12_log 204 = .ok (.iaload, 1) := by decide +kernel
theorem dX12_log_205 : decode cX12_log 205 = .ok (.goto 4, 3) := by decide +kernel
theorem dX12_log_208 : decode cX12_log 208 = .ok (.iconst 0, 1) := by decide +kernel
theorem dX12_log_209 : decode cX12_log 209 = .ok (.istore 11, 2) := by decide +kernel
theorem dX12_log_211 : decode cX12_log 211 = .ok (.aload_n 0, 1) := by decide +kernel
theorem dX12_log_212 : decode cX12_log 212 = .ok (.getfield 50, 3) := by decide +kernel
theorem dX12_log_215 : decode cX12_log 215 = .ok (.bipush 61, 2) := by decide +kernel
theorem dX12_log_217 : decode cX12_log 217 = .ok (.iload_n 1, 1) := by decide +kernel
theorem dX12_log_218 : decode cX12_log 218 = .ok (.imul, 1) := by decide +kernel
theorem dX12_log_219 : decode cX12_log 219 = .ok (.iload 7, 2) := by decide +kernel
theorem dX12_log_221 : decode cX12_log 221 = .ok (.iadd, 1) := by decide +kernel
theorem dX12_log_222 : decode cX12_log 222 = .ok (.aload_n 0, 1) := by decide +kernel
theorem dX12_log_223 : decode cX12_log 223 = .ok (.getfield 218, 3) := by decide +kernel
theorem dX12_log_226 : decode cX12_log 226 = .ok (.iload 10, 2) := by decide +kernel
theorem dX12_log_228 : decode cX12_log 228 = .ok (.baload, 1) := by decide +kernel
theorem dX12_log_229 : decode cX12_log 229 = .ok (.ifCond .eq 8, 3) := by decide +kernel
theorem dX12_log_232 : decode cX12_log 232 = .ok (.iload 11, 2) := by decide +kernel
theorem dX12_log_234 : decode cX12_log 234 = .ok (.goto 11, 3) := by decide +kernel
theorem dX12_log_237 : decode cX12_log 237 = .ok (.aload_n 0, 1) := by decide +kernel
theorem dX12_log_238 : decode cX12_log 238 = .ok (.getfield 214, 3) := by decide +kernel
theorem dX12_log_241 : decode cX12_log 241 = .ok (.iload 10, 2) := by decide +kernel
theorem dX12_log_243 : decode cX12_log 243 = .ok (.laload, 1) := by decide +kernel
theorem dX12_log_244 : decode cX12_log 244 = .ok (.l2i, 1) := by decide +kernel
theorem dX12_log_245 : decode cX12_log 245 = .ok (.iastore, 1) := by decide +kernel
theorem dX12_log_246 : decode cX12_log 246 = .ok (.aload_n 0, 1) := by decide +kernel
theorem dX12_log_247 : decode cX12_log 247 = .ok (.getfield 47, 3) := by decide +kernel
theorem dX12_log_250 : decode cX12_log 250 = .ok (.bipush 61, 2) := by decide +kernel
theorem dX12_log_252 : decode cX12_log 252 = .ok (.iload_n 1, 1) := by decide +kernel
theorem dX12_log_253 : decode cX12_log 253 = .ok (.imul, 1) := by decide +kernel
theorem dX12_log_254 : decode cX12_log 254 = .ok (.iload 7, 2) := by decide +kernel
theorem dX12_log_256 : decode cX12_log 256 = .ok (.iadd, 1) := by decide +kernel
theorem dX12_log_257 : decode cX12_log 257 = .ok (.iconst 1, 1) := by decide +kernel
theorem dX12_log_258 : decode cX12_log 258 = .ok (.bastore, 1) := by decide +kernel
theorem dX12_log_259 : decode cX12_log 259 = .ok (.iinc 6 1, 3) := by decide +kernel
theorem dX12_log_262 : decode cX12_log 262 = .ok (.goto (-199), 3) := by decide +kernel
theorem dX12_log_265 : decode cX12_log 265 = .ok (.iload 5, 2) := by decide +kernel
theorem dX12_log_267 : decode cX12_log 267 = .ok (.ireturn, 1) := by decide +kernel
theorem dX12_down4_0 : decode cX12_down4 0 = .ok (.iload_n 0, 1) := by decide +kernel
theorem dX12_down4_1 : decode cX12_down4 1 = .ok (.ifCond .lt 9, 3) := by decide +kernel
theorem dX12_down4_4 : decode cX12_down4 4 = .ok (.iload_n 0, 1) := by decide +kernel
theorem dX12_down4_5 : decode cX12_down4 5 = .ok (.iconst 4, 1) := by decide +kernel
theorem dX12_down4_6 : decode cX12_down4 6 = .ok (.idiv, 1) := by decide +kernel
theorem dX12_down4_7 : decode cX12_down4 7 = .ok (.goto 9, 3) := by decide +kernel
theorem dX12_down4_10 : decode cX12_down4 10 = .ok (.iconst 3, 1) := by decide +kernel
theorem dX12_down4_11 : decode cX12_down4 11 = .ok (.iload_n 0, 1) := by decide +kernel
theorem dX12_down4_12 : decode cX12_down4 12 = .ok (.isub, 1) := by decide +kernel
theorem dX12_down4_13 : decode cX12_down4 13 = .ok (.iconst 4, 1) := by decide +kernel
theorem dX12_down4_14 : decode cX12_down4 14 = .ok (.idiv, 1) := by decide +kernel
theorem dX12_down4_15 : decode cX12_down4 15 = .ok (.ineg, 1) := by decide +kernel
theorem dX12_down4_16 : decode cX12_down4 16 = .ok (.ireturn, 1) := by decide +kernel
theorem dX12_canBeAt_0 : decode cX12_canBeAt 0 = .ok (.iconst 4, 1) := by decide +kernel
theorem dX12_canBeAt_1 : decode cX12_canBeAt 1 = .ok (.aload_n 0, 1) := by decide +kernel
theorem dX12_canBeAt_2 : decode cX12_canBeAt 2 = .ok (.getfield 20, 3) := by decide +kernel
theorem dX12_canBeAt_5 : decode cX12_canBeAt 5 = .ok (.iload_n 1, 1) := by decide +kernel
theorem dX12_canBeAt_6 : decode cX12_canBeAt 6 = .ok (.iaload, 1) := by decide +kernel
theorem dX12_canBeAt_7 : decode cX12_canBeAt 7 = .ok (.imul, 1) := by decide +kernel
theorem dX12_canBeAt_8 : decode cX12_canBeAt 8 = .ok (.istore 4, 2) := by decide +kernel
theorem dX12_canBeAt_10 : decode cX12_canBeAt 10 = .ok (.iconst 1, 1) := by decide +kernel
theorem dX12_canBeAt_11 : decode cX12_canBeAt 11 = .ok (.istore 5, 2) := by decide +kernel
theorem dX12_canBeAt_13 : decode cX12_canBeAt 13 = .ok (.iload 5, 2) := by decide +kernel
theorem dX12_canBeAt_15 : decode cX12_canBeAt 15 = .ok (.iload_n 2, 1) := by decide +kernel
theorem dX12_canBeAt_16 : decode cX12_canBeAt 16 = .ok (.if_icmp .gt 71, 3) := by decide +kernel
theorem dX12_canBeAt_19 : decode cX12_canBeAt 19 = .ok (.bipush 61, 2) := by decide +kernel
theorem dX12_canBeAt_21 : decode cX12_canBeAt 21 = .ok (.iload_n 1, 1) := by decide +kernel
theorem dX12_canBeAt_22 : decode cX12_canBeAt 22 = .ok (.imul, 1) := by decide +kernel
theorem dX12_canBeAt_23 : decode cX12_canBeAt 23 = .ok (.iload 5, 2) := by decide +kernel
theorem dX12_canBeAt_25 : decode cX12_canBeAt 25 = .ok (.iadd, 1) := by decide +kernel
theorem dX12_canBeAt_26 : decode cX12_canBeAt 26 = .ok (.istore 6, 2) := by decide +kernel
theorem dX12_canBeAt_28 : decode cX12_canBeAt 28 = .ok (.iload 4, 2) := by decide +kernel
theorem dX12_canBeAt_30 : decode cX12_canBeAt 30 = .ok (.aload_n 0, 1) := by decide +kernel
theorem dX12_canBeAt_31 : decode cX12_canBeAt 31 = .ok (.getfield 47, 3) := by decide +kernel
theorem dX12_canBeAt_34 : decode cX12_canBeAt 34 = .ok (.iload 6, 2) := by decide +kernel
theorem dX12_canBeAt_36 : decode cX12_canBeAt 36 = .ok (.baload, 1) := by decide +kernel
theorem dX12_canBeAt_37 : decode cX12_canBeAt 37 = .ok (.ifCond .eq 30, 3) := by decide +kernel
theorem dX12_canBeAt_40 : decode cX12_canBeAt 40 = .ok (.aload_n 0, 1) := by decide +kernel
theorem dX12_canBeAt_41 : decode cX12_canBeAt 41 = .ok (.getfield 50, 3) := by decide +kernel
theorem dX12_canBeAt_44 : decode cX12_canBeAt 44 = .ok (.iload 6, 2) := by decide +kernel
theorem dX12_canBeAt_46 : decode cX12_canBeAt 46 = .ok (.iaload, 1) := by decide +kernel
theorem dX12_canBeAt_47 : decode cX12_canBeAt 47 = .ok (.iload_n 3, 1) := by decide +kernel
theorem dX12_canBeAt_48 : decode cX12_canBeAt 48 = .ok (.ifCond .eq 10, 3) := by decide +kernel
theorem dX12_canBeAt_51 : decode cX12_canBeAt 51 = .ok (.aload_n 0, 1) := by decide +kernel
theorem dX12_canBeAt_52 : decode cX12_canBeAt 52 = .ok (.getfield 78, 3) := by decide +kernel
theorem dX12_canBeAt_55 : decode cX12_canBeAt 55 = .ok (.goto 8, 3) := by decide +kernel
theorem dX12_canBeAt_58 : decode cX12_canBeAt 58 = .ok (.aload_n 0, 1) := by decide +kernel
theorem dX12_canBeAt_59 : decode cX12_canBeAt 59 = .ok (.getfield 78, 3) := by decide +kernel
theorem dX12_canBeAt_62 : decode cX12_canBeAt 62 = .ok (.ineg, 1) := by decide +kernel
theorem dX12_canBeAt_63 : decode cX12_canBeAt 63 = .ok (.iadd, 1) := by decide +kernel
theorem dX12_canBeAt_64 : decode cX12_canBeAt 64 = .ok (.goto 14, 3) := by decide +kernel
theorem dX12_canBeAt_67 : decode cX12_canBeAt 67 = .ok (.iload_n 3, 1) := by decide +kernel
theorem dX12_canBeAt_68 : decode cX12_canBeAt 68 = .ok (.ifCond .eq 8, 3) := by decide +kernel
theorem dX12_canBeAt_71 : decode cX12_canBeAt 71 = .ok (.bipush 8, 2) := by decide +kernel
theorem dX12_canBeAt_73 : decode cX12_canBeAt 73 = .ok (.goto 5, 3) := by decide +kernel
theorem dX12_canBeAt_76 : decode cX12_canBeAt 76 = .ok (.bipush (-8), 2) := by decide +kernel
theorem dX12_canBeAt_78 : decode cX12_canBeAt 78 = .ok (.iadd, 1) := by decide +kernel
theorem dX12_canBeAt_79 : decode cX12_canBeAt 79 = .ok (.istore 4, 2) := by decide +kernel
theorem dX12_canBeAt_81 : decode cX12_canBeAt 81 = .ok (.iinc 5 1, 3) := by decide +kernel
theorem dX12_canBeAt_84 : decode cX12_canBeAt 84 = .ok (.goto (-71), 3) := by decide +kernel
theorem dX12_canBeAt_87 : decode cX12_canBeAt 87 = .ok (.iload_n 3, 1) := by decide +kernel
theorem dX12_canBeAt_88 : decode cX12_canBeAt 88 = .ok (.ifCond .eq 13, 3) := by decide +kernel
theorem dX12_canBeAt_91 : decode cX12_canBeAt 91 = .ok (.iload 4, 2) := by decide +kernel
theorem dX12_canBeAt_93 : decode cX12_canBeAt 93 = .ok (.ineg, 1) := by decide +kernel
theorem dX12_canBeAt_94 : decode cX12_canBeAt 94 = .ok (.invokestatic 294, 3) := by decide +kernel
theorem dX12_canBeAt_97 : decode cX12_canBeAt 97 = .ok (.ineg, 1) := by decide +kernel
theorem dX12_canBeAt_98 : decode cX12_canBeAt 98 = .ok (.goto 8, 3) := by decide +kernel
theorem dX12_canBeAt_101 : decode cX12_canBeAt 101 = .ok (.iload 4, 2) := by decide +kernel
theorem dX12_canBeAt_103 : decode cX12_canBeAt 103 = .ok (.invokestatic 294, 3) := by decide +kernel
theorem dX12_canBeAt_106 : decode cX12_canBeAt 106 = .ok (.iconst 0, 1) := by decide +kernel
theorem dX12_canBeAt_107 : decode cX12_canBeAt 107 = .ok (.bipush 31, 2) := by decide +kernel
theorem dX12_canBeAt_109 : decode cX12_canBeAt 109 = .ok (.invokestatic 284, 3) := by decide +kernel
theorem dX12_canBeAt_112 : decode cX12_canBeAt 112 = .ok (.ireturn, 1) := by decide +kernel
theorem dX12_canBe_0 : decode cX12_canBe 0 = .ok (.aload_n 0, 1) := by decide +kernel
theorem dX12_canBe_1 : decode cX12_canBe 1 = .ok (.iload_n 1, 1) := by decide +kernel
theorem dX12_canBe_2 : decode cX12_canBe 2 = .ok (.invokevirtual 268, 3) := by decide +kernel
theorem dX12_canBe_5 : decode cX12_canBe 5 = .ok (.ifCond .eq 45, 3) := by decide +kernel
theorem dX12_canBe_8 : decode cX12_canBe 8 = .ok (.iload_n 2, 1) := by decide +kernel
theorem dX12_canBe_9 : decode cX12_canBe 9 = .ok (.iconst 1, 1) := by decide +kernel
theorem dX12_canBe_10 : decode cX12_canBe 10 = .ok (.aload_n 0, 1) := by decide +kernel
theorem dX12_canBe_11 : decode cX12_canBe 11 = .ok (.getfield 32, 3) := by decide +kernel
theorem dX12_canBe_14 : decode cX12_canBe 14 = .ok (.iload_n 1, 1) := by decide +kernel
theorem dX12_canBe_15 : decode cX12_canBe 15 = .ok (.iaload, 1) := by decide +kernel
theorem dX12_canBe_16 : decode cX12_canBe 16 = .ok (.invokestatic 230, 3) := by decide +kernel
theorem dX12_canBe_19 : decode cX12_canBe 19 = .ok (.ifCond .eq 31, 3) := by decide +kernel
theorem dX12_canBe_22 : decode cX12_canBe 22 = .ok (.iload_n 3, 1) := by decide +kernel
theorem dX12_canBe_23 : decode cX12_canBe 23 = .ok (.iconst 0, 1) := by decide +kernel
theorem dX12_canBe_24 : decode cX12_canBe 24 = .ok (.iconst 1, 1) := by decide +kernel
theorem dX12_canBe_25 : decode cX12_canBe 25 = .ok (.invokestatic 230, 3) := by decide +kernel
theorem dX12_canBe_28 : decode cX12_canBe 28 = .ok (.ifCond .eq 22, 3) := by decide +kernel
theorem dX12_canBe_31 : decode cX12_canBe 31 = .ok (.aload_n 0, 1) := by decide +kernel
theorem dX12_canBe_32 : decode cX12_canBe 32 = .ok (.iload_n 1, 1) := by decide +kernel
theorem dX12_canBe_33 : decode cX12_canBe 33 = .ok (.iload_n 2, 1) := by decide +kernel
theorem dX12_canBe_34 : decode cX12_canBe 34 = .ok (.iload_n 3, 1) := by decide +kernel
theorem dX12_canBe_35 : decode cX12_canBe 35 = .ok (.iconst 1, 1) := by decide +kernel
theorem dX12_canBe_36 : decode cX12_canBe 36 = .ok (.if_icmp .ne 7, 3) := by decide +kernel
theorem dX12_canBe_39 : decode cX12_canBe 39 = .ok (.iconst 1, 1) := by decide +kernel
theorem dX12_canBe_40 : decode cX12_canBe 40 = .ok (.goto 4, 3) := by decide +kernel
theorem dX12_canBe_43 : decode cX12_canBe 43 = .ok (.iconst 0, 1) := by decide +kernel
theorem dX12_canBe_44 : decode cX12_canBe 44 = .ok (.invokevirtual 297, 3) := by decide +kernel
theorem dX12_canBe_47 : decode cX12_canBe 47 = .ok (.goto 4, 3) := by decide +kernel
theorem dX12_canBe_50 : decode cX12_canBe 50 = .ok (.iconst (-1), 1) := by decide +kernel
theorem dX12_canBe_51 : decode cX12_canBe 51 = .ok (.ireturn, 1) := by decide +kernel
theorem dX12_map_0 : decode cX12_map 0 = .ok (.iload_n 1, 1) := by decide +kernel
theorem dX12_map_1 : decode cX12_map 1 = .ok (.invokestatic 255, 3) := by decide +kernel
theorem dX12_map_4 : decode cX12_map 4 = .ok (.ifCond .eq 13, 3) := by decide +kernel
theorem dX12_map_7 : decode cX12_map 7 = .ok (.iload_n 2, 1) := by decide +kernel
theorem dX12_map_8 : decode cX12_map 8 = .ok (.iconst 1, 1) := by decide +kernel
theorem dX12_map_9 : decode cX12_map 9 = .ok (.bipush 60, 2) := by decide +kernel
theorem dX12_map_11 : decode cX12_map 11 = .ok (.invokestatic 230, 3) := by decide +kernel
theorem dX12_map_14 : decode cX12_map 14 = .ok (.ifCond .ne 5, 3) := by decide +kernel
theorem dX12_map_17 : decode cX12_map 17 = .ok (.iconst (-1), 1) := by decide +kernel
theorem dX12_map_18 : decode cX12_map 18 = .ok (.ireturn, 1) := by decide +kernel
theorem dX12_map_19 : decode cX12_map 19 = .ok (.aload_n 0, 1) := by decide +kernel
theorem dX12_map_20 : decode cX12_map 20 = .ok (.getfield 301, 3) := by decide +kernel
theorem dX12_map_23 : decode cX12_map 23 = .ok (.bipush 8, 2) := by decide +kernel
theorem dX12_map_25 : decode cX12_map 25 = .ok (.if_icmp .ne 6, 3) := by decide +kernel
theorem dX12_map_28 : decode cX12_map 28 = .ok (.bipush (-3), 2) := by decide +kernel
theorem dX12_map_30 : decode cX12_map 30 = .ok (.ireturn, 1) := by decide +kernel
theorem dX12_map_31 : decode cX12_map 31 = .ok (.aload_n 0, 1) := by decide +kernel
theorem dX12_map_32 : decode cX12_map 32 = .ok (.getfield 81, 3) := by decide +kernel
theorem dX12_map_35 : decode cX12_map 35 = .ok (.aload_n 0, 1) := by decide +kernel
theorem dX12_map_36 : decode cX12_map 36 = .ok (.getfield 301, 3) := by decide +kernel
theorem dX12_map_39 : decode cX12_map 39 = .ok (.iload_n 1, 1) := by decide +kernel
theorem dX12_map_40 : decode cX12_map 40 = .ok (.bipush 100, 2) := by decide +kernel
theorem dX12_map_42 : decode cX12_map 42 = .ok (.idiv, 1) := by decide +kernel
theorem dX12_map_43 : decode cX12_map 43 = .ok (.iastore, 1) := by decide +kernel
theorem dX12_map_44 : decode cX12_map 44 = .ok (.aload_n 0, 1) := by decide +kernel
theorem dX12_map_45 : decode cX12_map 45 = .ok (.getfield 84, 3) := by decide +kernel
theorem dX12_map_48 : decode cX12_map 48 = .ok (.aload_n 0, 1) := by decide +kernel
theorem dX12_map_49 : decode cX12_map 49 = .ok (.getfield 301, 3) := by decide +kernel
theorem dX12_map_52 : decode cX12_map 52 = .ok (.iload_n 1, 1) := by decide +kernel
theorem dX12_map_53 : decode cX12_map 53 = .ok (.bipush 100, 2) := by decide +kernel
theorem dX12_map_55 : decode cX12_map 55 = .ok (.irem, 1) := by decide +kernel
theorem dX12_map_56 : decode cX12_map 56 = .ok (.iastore, 1) := by decide +kernel
theorem dX12_map_57 : decode cX12_map 57 = .ok (.aload_n 0, 1) := by decide +kernel
theorem dX12_map_58 : decode cX12_map 58 = .ok (.getfield 87, 3) := by decide +kernel
theorem dX12_map_61 : decode cX12_map 61 = .ok (.aload_n 0, 1) := by decide +kernel
theorem dX12_map_62 : decode cX12_map 62 = .ok (.getfield 301, 3) := by decide +kernel
theorem dX12_map_65 : decode cX12_map 65 = .ok (.iload_n 2, 1) := by decide +kernel
theorem dX12_map_66 : decode cX12_map 66 = .ok (.iastore, 1) := by decide +kernel
theorem dX12_map_67 : decode cX12_map 67 = .ok (.aload_n 0, 1) := by decide +kernel
theorem dX12_map_68 : decode cX12_map 68 = .ok (.dup, 1) := by decide +kernel
theorem dX12_map_69 : decode cX12_map 69 = .ok (.getfield 301, 3) := by decide +kernel
theorem dX12_map_72 : decode cX12_map 72 = .ok (.iconst 1, 1) := by decide +kernel
theorem dX12_map_73 : decode cX12_map 73 = .ok (.iadd, 1) := by decide +kernel
theorem dX12_map_74 : decode cX12_map 74 = .ok (.putfield 301, 3) := by decide +kernel
theorem dX12_map_77 : decode cX12_map 77 = .ok (.aload_n 0, 1) := by decide +kernel
theorem dX12_map_78 : decode cX12_map 78 = .ok (.getfield 301, 3) := by decide +kernel
theorem dX12_map_81 : decode cX12_map 81 = .ok (.iconst 1, 1) := by decide +kernel
theorem dX12_map_82 : decode cX12_map 82 = .ok (.isub, 1) := by decide +kernel
theorem dX12_map_83 : decode cX12_map 83 = .ok (.ireturn, 1) := by decide +kernel
theorem dX12_isOldBy_0 : decode cX12_isOldBy 0 = .ok (.iconst 0, 1) := by decide +kernel
theorem dX12_isOldBy_1 : decode cX12_isOldBy 1 = .ok (.istore_n 3, 1) := by decide +kernel
theorem dX12_isOldBy_2 : decode cX12_isOldBy 2 = .ok (.iload_n 3, 1) := by decide +kernel
theorem dX12_isOldBy_3 : decode cX12_isOldBy 3 = .ok (.aload_n 0, 1) := by decide +kernel
theorem dX12_isOldBy_4 : decode cX12_isOldBy 4 = .ok (.getfield 90, 3) := by decide +kernel
theorem dX12_isOldBy_7 : decode cX12_isOldBy 7 = .ok (.iload_n 1, 1) := by decide +kernel
theorem dX12_isOldBy_8 : decode cX12_isOldBy 8 = .ok (.iaload, 1) := by decide +kernel
theorem dX12_isOldBy_9 : decode cX12_isOldBy 9 = .ok (.if_icmp .ge 26, 3) := by decide +kernel
theorem dX12_isOldBy_12 : decode cX12_isOldBy 12 = .ok (.aload_n 0, 1) := by decide +kernel
theorem dX12_isOldBy_13 : decode cX12_isOldBy 13 = .ok (.getfield 93, 3) := by decide +kernel
theorem dX12_isOldBy_16 : decode cX12_isOldBy 16 = .ok (.bipush 40, 2) := by decide +kernel
theorem dX12_isOldBy_18 : decode cX12_isOldBy 18 = .ok (.iload_n 1, 1) := by decide +kernel
theorem dX12_isOldBy_19 : decode cX12_isOldBy 19 = .ok (.imul, 1) := by decide +kernel
theorem dX12_isOldBy_20 : decode cX12_isOldBy 20 = .ok (.iload_n 3, 1) := by decide +kernel
theorem dX12_isOldBy_21 : decode cX12_isOldBy 21 = .ok (.iadd, 1) := by decide +kernel
theorem dX12_isOldBy_22 : decode cX12_isOldBy 22 = .ok (.iaload, 1) := by decide +kernel
theorem dX12_isOldBy_23 : decode cX12_isOldBy 23 = .ok (.iload_n 2, 1) := by decide +kernel
theorem dX12_isOldBy_24 : decode cX12_isOldBy 24 = .ok (.if_icmp .ne 5, 3) := by decide +kernel
theorem dX12_isOldBy_27 : decode cX12_isOldBy 27 = .ok (.iconst 1, 1) := by decide +kernel
theorem dX12_isOldBy_28 : decode cX12_isOldBy 28 = .ok (.ireturn, 1) := by decide +kernel
theorem dX12_isOldBy_29 : decode cX12_isOldBy 29 = .ok (.iinc 3 1, 3) := by decide +kernel
theorem dX12_isOldBy_32 : decode cX12_isOldBy 32 = .ok (.goto (-30), 3) := by decide +kernel
theorem dX12_isOldBy_35 : decode cX12_isOldBy 35 = .ok (.iconst 0, 1) := by decide +kernel
theorem dX12_isOldBy_36 : decode cX12_isOldBy 36 = .ok (.ireturn, 1) := by decide +kernel
theorem dX12_old_0 : decode cX12_old 0 = .ok (.iload_n 1, 1) := by decide +kernel
theorem dX12_old_1 : decode cX12_old 1 = .ok (.iconst 0, 1) := by decide +kernel
theorem dX12_old_2 : decode cX12_old 2 = .ok (.aload_n 0, 1) := by decide +kernel
theorem dX12_old_3 : decode cX12_old 3 = .ok (.getfield 301, 3) := by decide +kernel
theorem dX12_old_6 : decode cX12_old 6 = .ok (.iconst 1, 1) := by decide +kernel
theorem dX12_old_7 : decode cX12_old 7 = .ok (.isub, 1) := by decide +kernel
theorem dX12_old_8 : decode cX12_old 8 = .ok (.invokestatic 230, 3) := by decide +kernel
theorem dX12_old_11 : decode cX12_old 11 = .ok (.ifCond .eq 19, 3) := by decide +kernel
theorem dX12_old_14 : decode cX12_old 14 = .ok (.iload_n 2, 1) := by decide +kernel
theorem dX12_old_15 : decode cX12_old 15 = .ok (.invokestatic 234, 3) := by decide +kernel
theorem dX12_old_18 : decode cX12_old 18 = .ok (.ifCond .eq 12, 3) := by decide +kernel
theorem dX12_old_21 : decode cX12_old 21 = .ok (.aload_n 0, 1) := by decide +kernel
theorem dX12_old_22 : decode cX12_old 22 = .ok (.iload_n 1, 1) := by decide +kernel
theorem dX12_old_23 : decode cX12_old 23 = .ok (.iload_n 2, 1) := by decide +kernel
theorem dX12_old_24 : decode cX12_old 24 = .ok (.invokevirtual 304, 3) := by decide +kernel
theorem dX12_old_27 : decode cX12_old 27 = .ok (.ifCond .eq 5, 3) := by decide +kernel
theorem dX12_old_30 : decode cX12_old 30 = .ok (.iconst (-1), 1) := by decide +kernel
theorem dX12_old_31 : decode cX12_old 31 = .ok (.ireturn, 1) := by decide +kernel
theorem dX12_old_32 : decode cX12_old 32 = .ok (.aload_n 0, 1) := by decide +kernel
theorem dX12_old_33 : decode cX12_old 33 = .ok (.getfield 90, 3) := by decide +kernel
theorem dX12_old_36 : decode cX12_old 36 = .ok (.iload_n 1, 1) := by decide +kernel
theorem dX12_old_37 : decode cX12_old 37 = .ok (.iaload, 1) := by decide +kernel
theorem dX12_old_38 : decode cX12_old 38 = .ok (.bipush 40, 2) := by decide +kernel
theorem dX12_old_40 : decode cX12_old 40 = .ok (.if_icmp .ne 6, 3) := by decide +kernel
theorem dX12_old_43 : decode cX12_old 43 = .ok (.bipush (-3), 2) := by decide +kernel
theorem dX12_old_45 : decode cX12_old 45 = .ok (.ireturn, 1) := by decide +kernel
theorem dX12_old_46 : decode cX12_old 46 = .ok (.aload_n 0, 1) := by decide +kernel
theorem dX12_old_47 : decode cX12_old 47 = .ok (.getfield 93, 3) := by decide +kernel
theorem dX12_old_50 : decode cX12_old 50 = .ok (.bipush 40, 2) := by decide +kernel
theorem dX12_old_52 : decode cX12_old 52 = .ok (.iload_n 1, 1) := by decide +kernel
theorem dX12_old_53 : decode cX12_old 53 = .ok (.imul, 1) := by decide +kernel
theorem dX12_old_54 : decode cX12_old 54 = .ok (.aload_n 0, 1) := by decide +kernel
theorem dX12_old_55 : decode cX12_old 55 = .ok (.getfield 90, 3) := by decide +kernel
theorem dX12_old_58 : decode cX12_old 58 = .ok (.iload_n 1, 1) := by decide +kernel
theorem dX12_old_59 : decode cX12_old 59 = .ok (.iaload, 1) := by decide +kernel
theorem dX12_old_60 : decode cX12_old 60 = .ok (.iadd, 1) := by decide +kernel
theorem dX12_old_61 : decode cX12_old 61 = .ok (.iload_n 2, 1) := by decide +kernel
theorem dX12_old_62 : decode cX12_old 62 = .ok (.iastore, 1) := by decide +kernel
theorem dX12_old_63 : decode cX12_old 63 = .ok (.aload_n 0, 1) := by decide +kernel
theorem dX12_old_64 : decode cX12_old 64 = .ok (.getfield 90, 3) := by decide +kernel
theorem dX12_old_67 : decode cX12_old 67 = .ok (.iload_n 1, 1) := by decide +kernel
theorem dX12_old_68 : decode cX12_old 68 = .ok (.dup2, 1) := by decide +kernel
theorem dX12_old_69 : decode cX12_old 69 = .ok (.iaload, 1) := by decide +kernel
theorem dX12_old_70 : decode cX12_old 70 = .ok (.iconst 1, 1) := by decide +kernel
theorem dX12_old_71 : decode cX12_old 71 = .ok (.iadd, 1) := by decide +kernel
theorem dX12_old_72 : decode cX12_old 72 = .ok (.iastore, 1) := by decide +kernel
theorem dX12_old_73 : decode cX12_old 73 = .ok (.aload_n 0, 1) := by decide +kernel
theorem dX12_old_74 : decode cX12_old 74 = .ok (.getfield 90, 3) := by decide +kernel
theorem dX12_old_77 : decode cX12_old 77 = .ok (.iload_n 1, 1) := by decide +kernel
theorem dX12_old_78 : decode cX12_old 78 = .ok (.iaload, 1) := by decide +kernel
theorem dX12_old_79 : decode cX12_old 79 = .ok (.ireturn, 1) := by decide +kernel
theorem dX12_isShelterBy_0 : decode cX12_isShelterBy 0 = .ok (.iload_n 3, 1) := by decide +kernel
theorem dX12_isShelterBy_1 : decode cX12_isShelterBy 1 = .ok (.aload_n 0, 1) := by decide +kernel
theorem dX12_isShelterBy_2 : decode cX12_isShelterBy 2 = .ok (.getfield 87, 3) := by decide +kernel
theorem dX12_isShelterBy_5 : decode cX12_isShelterBy 5 = .ok (.iload_n 1, 1) := by decide +kernel
theorem dX12_isShelterBy_6 : decode cX12_isShelterBy 6 = .ok (.iaload, 1) := by decide +kernel
theorem dX12_isShelterBy_7 : decode cX12_isShelterBy 7 = .ok (.if_icmp .ne 26, 3) := by decide +kernel
theorem dX12_isShelterBy_10 : decode cX12_isShelterBy 10 = .ok (.iload_n 2, 1) := by decide +kernel
theorem dX12_isShelterBy_11 : decode cX12_isShelterBy 11 = .ok (.aload_n 0, 1) := by decide +kernel
theorem dX12_isShelterBy_12 : decode cX12_isShelterBy 12 = .ok (.getfield 81, 3) := by decide +kernel
theorem dX12_isShelterBy_15 : decode cX12_isShelterBy 15 = .ok (.iload_n 1, 1) := by decide +kernel
theorem dX12_isShelterBy_16 : decode cX12_isShelterBy 16 = .ok (.iaload, 1) := by decide +kernel
theorem dX12_isShelterBy_17 : decode cX12_isShelterBy 17 = .ok (.aload_n 0, 1) := by decide +kernel
theorem dX12_isShelterBy_18 : decode cX12_isShelterBy 18 = .ok (.getfield 84, 3) := by decide +kernel
theorem dX12_isShelterBy_21 : decode cX12_isShelterBy 21 = .ok (.iload_n 1, 1) := by decide +kernel
theorem dX12_isShelterBy_22 : decode cX12_isShelterBy 22 = .ok (.iaload, 1) := by decide +kernel
theorem dX12_isShelterBy_23 : decode cX12_isShelterBy 23 = .ok (.invokestatic 230, 3) := by decide +kernel
theorem dX12_isShelterBy_26 : decode cX12_isShelterBy 26 = .ok (.ifCond .eq 7, 3) := by decide +kernel
theorem dX12_isShelterBy_29 : decode cX12_isShelterBy 29 = .ok (.iconst 1, 1) := by decide +kernel
theorem dX12_isShelterBy_30 : decode cX12_isShelterBy 30 = .ok (.goto 4, 3) := by decide +kernel
theorem dX12_isShelterBy_33 : decode cX12_isShelterBy 33 = .ok (.iconst 0, 1) := by decide +kernel
theorem dX12_isShelterBy_34 : decode cX12_isShelterBy 34 = .ok (.ireturn, 1) := by decide +kernel
theorem dX12_isUnlike_0 : decode cX12_isUnlike 0 = .ok (.aload_n 0, 1) := by decide +kernel
theorem dX12_isUnlike_1 : decode cX12_isUnlike 1 = .ok (.getfield 44, 3) := by decide +kernel
theorem dX12_isUnlike_4 : decode cX12_isUnlike 4 = .ok (.bipush 61, 2) := by decide +kernel
theorem dX12_isUnlike_6 : decode cX12_isUnlike 6 = .ok (.iload_n 2, 1) := by decide +kernel
theorem dX12_isUnlike_7 : decode cX12_isUnlike 7 = .ok (.imul, 1) := by decide +kernel
theorem dX12_isUnlike_8 : decode cX12_isUnlike 8 = .ok (.iload_n 3, 1) := by decide +kernel
theorem dX12_isUnlike_9 : decode cX12_isUnlike 9 = .ok (.iadd, 1) := by decide +kernel
theorem dX12_isUnlike_10 : decode cX12_isUnlike 10 = .ok (.iaload, 1) := by decide +kernel
theorem dX12_isUnlike_11 : decode cX12_isUnlike 11 = .ok (.istore 4, 2) := by decide +kernel
theorem dX12_isUnlike_13 : decode cX12_isUnlike 13 = .ok (.aload_n 0, 1) := by decide +kernel
theorem dX12_isUnlike_14 : decode cX12_isUnlike 14 = .ok (.iload_n 2, 1) := by decide +kernel
theorem dX12_isUnlike_15 : decode cX12_isUnlike 15 = .ok (.iload_n 3, 1) := by decide +kernel
theorem dX12_isUnlike_16 : decode cX12_isUnlike 16 = .ok (.iconst 0, 1) := by decide +kernel
theorem dX12_isUnlike_17 : decode cX12_isUnlike 17 = .ok (.invokevirtual 297, 3) := by decide +kernel
theorem dX12_isUnlike_20 : decode cX12_isUnlike 20 = .ok (.istore 5, 2) := by decide +kernel
theorem dX12_isUnlike_22 : decode cX12_isUnlike 22 = .ok (.iload 5, 2) := by decide +kernel
theorem dX12_isUnlike_24 : decode cX12_isUnlike 24 = .ok (.aload_n 0, 1) := by decide +kernel
theorem dX12_isUnlike_25 : decode cX12_isUnlike 25 = .ok (.iload_n 2, 1) := by decide +kernel
theorem dX12_isUnlike_26 : decode cX12_isUnlike 26 = .ok (.iload_n 3, 1) := by decide +kernel
theorem dX12_isUnlike_27 : decode cX12_isUnlike 27 = .ok (.iconst 1, 1) := by decide +kernel
theorem dX12_isUnlike_28 : decode cX12_isUnlike 28 = .ok (.invokevirtual 297, 3) := by decide +kernel
theorem dX12_isUnlike_31 : decode cX12_isUnlike 31 = .ok (.if_icmp .gt 94, 3) := by decide +kernel
theorem dX12_isUnlike_34 : decode cX12_isUnlike 34 = .ok (.aload_n 0, 1) := by decide +kernel
theorem dX12_isUnlike_35 : decode cX12_isUnlike 35 = .ok (.iload_n 1, 1) := by decide +kernel
theorem dX12_isUnlike_36 : decode cX12_isUnlike 36 = .ok (.bipush 100, 2) := by decide +kernel
theorem dX12_isUnlike_38 : decode cX12_isUnlike 38 = .ok (.iload 5, 2) := by decide +kernel
theorem dX12_isUnlike_40 : decode cX12_isUnlike 40 = .ok (.imul, 1) := by decide +kernel
theorem dX12_isUnlike_41 : decode cX12_isUnlike 41 = .ok (.iload_n 3, 1) := by decide +kernel
theorem dX12_isUnlike_42 : decode cX12_isUnlike 42 = .ok (.iadd, 1) := by decide +kernel
theorem dX12_isUnlike_43 : decode cX12_isUnlike 43 = .ok (.invokevirtual 304, 3) := by decide +kernel
theorem dX12_isUnlike_46 : decode cX12_isUnlike 46 = .ok (.istore 6, 2) := by decide +kernel
theorem dX12_isUnlike_48 : decode cX12_isUnlike 48 = .ok (.aload_n 0, 1) := by decide +kernel
theorem dX12_isUnlike_49 : decode cX12_isUnlike 49 = .ok (.iload_n 1, 1) := by decide +kernel
theorem dX12_isUnlike_50 : decode cX12_isUnlike 50 = .ok (.iload 5, 2) := by decide +kernel
theorem dX12_isUnlike_52 : decode cX12_isUnlike 52 = .ok (.iload_n 3, 1) := by decide +kernel
theorem dX12_isUnlike_53 : decode cX12_isUnlike 53 = .ok (.invokevirtual 307, 3) := by decide +kernel
theorem dX12_isUnlike_56 : decode cX12_isUnlike 56 = .ok (.istore 7, 2) := by decide +kernel
theorem dX12_isUnlike_58 : decode cX12_isUnlike 58 = .ok (.iload 4, 2) := by decide +kernel
theorem dX12_isUnlike_60 : decode cX12_isUnlike 60 = .ok (.ifCond .ne 21, 3) := by decide +kernel
theorem dX12_isUnlike_63 : decode cX12_isUnlike 63 = .ok (.iload 6, 2) := by decide +kernel
theorem dX12_isUnlike_65 : decode cX12_isUnlike 65 = .ok (.ifCond .ne 8, 3) := by decide +kernel
theorem dX12_isUnlike_68 : decode cX12_isUnlike 68 = .ok (.iload 7, 2) := by decide +kernel
theorem dX12_isUnlike_70 : decode cX12_isUnlike 70 = .ok (.ifCond .eq 7, 3) := by decide +kernel
theorem dX12_isUnlike_73 : decode cX12_isUnlike 73 = .ok (.iconst 1, 1) := by decide +kernel
theorem dX12_isUnlike_74 : decode cX12_isUnlike 74 = .ok (.goto 36, 3) := by decide +kernel
theorem dX12_isUnlike_77 : decode cX12_isUnlike 77 = .ok (.iconst 0, 1) := by decide +kernel
theorem dX12_isUnlike_78 : decode cX12_isUnlike 78 = .ok (.goto 32, 3) := by decide +kernel
theorem dX12_isUnlike_81 : decode cX12_isUnlike 81 = .ok (.iload 4, 2) := by decide +kernel
theorem dX12_isUnlike_83 : decode cX12_isUnlike 83 = .ok (.iconst 1, 1) := by decide +kernel
theorem dX12_isUnlike_84 : decode cX12_isUnlike 84 = .ok (.if_icmp .ne 16, 3) := by decide +kernel
theorem dX12_isUnlike_87 : decode cX12_isUnlike 87 = .ok (.iload 6, 2) := by decide +kernel
theorem dX12_isUnlike_89 : decode cX12_isUnlike 89 = .ok (.ifCond .ne 7, 3) := by decide +kernel
theorem dX12_isUnlike_92 : decode cX12_isUnlike 92 = .ok (.iconst 1, 1) := by decide +kernel
theorem dX12_isUnlike_93 : decode cX12_isUnlike 93 = .ok (.goto 17, 3) := by decide +kernel
theorem dX12_isUnlike_96 : decode cX12_isUnlike 96 = .ok (.iconst 0, 1) := by decide +kernel
theorem dX12_isUnlike_97 : decode cX12_isUnlike 97 = .ok (.goto 13, 3) := by decide +kernel
theorem dX12_isUnlike_100 : decode cX12_isUnlike 100 = .ok (.iload 7, 2) := by decide +kernel
theorem dX12_isUnlike_102 : decode cX12_isUnlike 102 = .ok (.ifCond .ne 7, 3) := by decide +kernel
theorem dX12_isUnlike_105 : decode cX12_isUnlike 105 = .ok (.iconst 1, 1) := by decide +kernel
theorem dX12_isUnlike_106 : decode cX12_isUnlike 106 = .ok (.goto 4, 3) := by decide +kernel
theorem dX12_isUnlike_109 : decode cX12_isUnlike 109 = .ok (.iconst 0, 1) := by decide +kernel
theorem dX12_isUnlike_110 : decode cX12_isUnlike 110 = .ok (.istore 8, 2) := by decide +kernel
theorem dX12_isUnlike_112 : decode cX12_isUnlike 112 = .ok (.iload 8, 2) := by decide +kernel
theorem dX12_isUnlike_114 : decode cX12_isUnlike 114 = .ok (.ifCond .ne 5, 3) := by decide +kernel
theorem dX12_isUnlike_117 : decode cX12_isUnlike 117 = .ok (.iconst 0, 1) := by decide +kernel
theorem dX12_isUnlike_118 : decode cX12_isUnlike 118 = .ok (.ireturn, 1) := by decide +kernel
theorem dX12_isUnlike_119 : decode cX12_isUnlike 119 = .ok (.iinc 5 1, 3) := by decide +kernel
theorem dX12_isUnlike_122 : decode cX12_isUnlike 122 = .ok (.goto (-100), 3) := by decide +kernel
theorem dX12_isUnlike_125 : decode cX12_isUnlike 125 = .ok (.iconst 1, 1) := by decide +kernel
theorem dX12_isUnlike_126 : decode cX12_isUnlike 126 = .ok (.ireturn, 1) := by decide +kernel
theorem dX12_wrongBy_0 : decode cX12_wrongBy 0 = .ok (.iconst 0, 1) := by decide +kernel
theorem dX12_wrongBy_1 : decode cX12_wrongBy 1 = .ok (.istore_n 2, 1) := by decide +kernel
theorem dX12_wrongBy_2 : decode cX12_wrongBy 2 = .ok (.iload_n 2, 1) := by decide +kernel
theorem dX12_wrongBy_3 : decode cX12_wrongBy 3 = .ok (.aload_n 0, 1) := by decide +kernel
theorem dX12_wrongBy_4 : decode cX12_wrongBy 4 = .ok (.getfield 242, 3) := by decide +kernel
theorem dX12_wrongBy_7 : decode cX12_wrongBy 7 = .ok (.if_icmp .ge 55, 3) := by decide +kernel
theorem dX12_wrongBy_10 : decode cX12_wrongBy 10 = .ok (.aload_n 0, 1) := by decide +kernel
theorem dX12_wrongBy_11 : decode cX12_wrongBy 11 = .ok (.iload_n 2, 1) := by decide +kernel
theorem dX12_wrongBy_12 : decode cX12_wrongBy 12 = .ok (.invokevirtual 268, 3) := by decide +kernel
theorem dX12_wrongBy_15 : decode cX12_wrongBy 15 = .ok (.ifCond .ne 6, 3) := by decide +kernel
theorem dX12_wrongBy_18 : decode cX12_wrongBy 18 = .ok (.goto 38, 3) := by decide +kernel
theorem dX12_wrongBy_21 : decode cX12_wrongBy 21 = .ok (.iconst 1, 1) := by decide +kernel
theorem dX12_wrongBy_22 : decode cX12_wrongBy 22 = .ok (.istore_n 3, 1) := by decide +kernel
theorem dX12_wrongBy_23 : decode cX12_wrongBy 23 = .ok (.iload_n 3, 1) := by decide +kernel
theorem dX12_wrongBy_24 : decode cX12_wrongBy 24 = .ok (.aload_n 0, 1) := by decide +kernel
theorem dX12_wrongBy_25 : decode cX12_wrongBy 25 = .ok (.getfield 32, 3) := by decide +kernel
theorem dX12_wrongBy_28 : decode cX12_wrongBy 28 = .ok (.iload_n 2, 1) := by decide +kernel
theorem dX12_wrongBy_29 : decode cX12_wrongBy 29 = .ok (.iaload, 1) := by decide +kernel
theorem dX12_wrongBy_30 : decode cX12_wrongBy 30 = .ok (.if_icmp .gt 26, 3) := by decide +kernel
theorem dX12_wrongBy_33 : decode cX12_wrongBy 33 = .ok (.aload_n 0, 1) := by decide +kernel
theorem dX12_wrongBy_34 : decode cX12_wrongBy 34 = .ok (.iload_n 1, 1) := by decide +kernel
theorem dX12_wrongBy_35 : decode cX12_wrongBy 35 = .ok (.iload_n 2, 1) := by decide +kernel
theorem dX12_wrongBy_36 : decode cX12_wrongBy 36 = .ok (.iload_n 3, 1) := by decide +kernel
theorem dX12_wrongBy_37 : decode cX12_wrongBy 37 = .ok (.invokevirtual 310, 3) := by decide +kernel
theorem dX12_wrongBy_40 : decode cX12_wrongBy 40 = .ok (.ifCond .eq 10, 3) := by decide +kernel
theorem dX12_wrongBy_43 : decode cX12_wrongBy 43 = .ok (.bipush 100, 2) := by decide +kernel
theorem dX12_wrongBy_45 : decode cX12_wrongBy 45 = .ok (.iload_n 2, 1) := by decide +kernel
theorem dX12_wrongBy_46 : decode cX12_wrongBy 46 = .ok (.imul, 1) := by decide +kernel
theorem dX12_wrongBy_47 : decode cX12_wrongBy 47 = .ok (.iload_n 3, 1) := by decide +kernel
theorem dX12_wrongBy_48 : decode cX12_wrongBy 48 = .ok (.iadd, 1) := by decide +kernel
theorem dX12_wrongBy_49 : decode cX12_wrongBy 49 = .ok (.ireturn, 1) := by decide +kernel
theorem dX12_wrongBy_50 : decode cX12_wrongBy 50 = .ok (.iinc 3 1, 3) := by decide +kernel
theorem dX12_wrongBy_53 : decode cX12_wrongBy 53 = .ok (.goto (-30), 3) := by decide +kernel
theorem dX12_wrongBy_56 : decode cX12_wrongBy 56 = .ok (.iinc 2 1, 3) := by decide +kernel
theorem dX12_wrongBy_59 : decode cX12_wrongBy 59 = .ok (.goto (-57), 3) := by decide +kernel
theorem dX12_wrongBy_62 : decode cX12_wrongBy 62 = .ok (.bipush (-2), 2) := by decide +kernel
theorem dX12_wrongBy_64 : decode cX12_wrongBy 64 = .ok (.ireturn, 1) := by decide +kernel
theorem dX12_wrong_0 : decode cX12_wrong 0 = .ok (.iload_n 1, 1) := by decide +kernel
theorem dX12_wrong_1 : decode cX12_wrong 1 = .ok (.iconst 0, 1) := by decide +kernel
theorem dX12_wrong_2 : decode cX12_wrong 2 = .ok (.aload_n 0, 1) := by decide +kernel
theorem dX12_wrong_3 : decode cX12_wrong 3 = .ok (.getfield 301, 3) := by decide +kernel
theorem dX12_wrong_6 : decode cX12_wrong 6 = .ok (.iconst 1, 1) := by decide +kernel
theorem dX12_wrong_7 : decode cX12_wrong 7 = .ok (.isub, 1) := by decide +kernel
theorem dX12_wrong_8 : decode cX12_wrong 8 = .ok (.invokestatic 230, 3) := by decide +kernel
theorem dX12_wrong_11 : decode cX12_wrong 11 = .ok (.ifCond .eq 11, 3) := by decide +kernel
theorem dX12_wrong_14 : decode cX12_wrong 14 = .ok (.aload_n 0, 1) := by decide +kernel
theorem dX12_wrong_15 : decode cX12_wrong 15 = .ok (.iload_n 1, 1) := by decide +kernel
theorem dX12_wrong_16 : decode cX12_wrong 16 = .ok (.invokevirtual 313, 3) := by decide +kernel
theorem dX12_wrong_19 : decode cX12_wrong 19 = .ok (.goto 4, 3) := by decide +kernel
theorem dX12_wrong_22 : decode cX12_wrong 22 = .ok (.iconst (-1), 1) := by decide +kernel
theorem dX12_wrong_23 : decode cX12_wrong 23 = .ok (.ireturn, 1) := by decide +kernel
theorem dX12_known_0 : decode cX12_known 0 = .ok (.iload_n 1, 1) := by decide +kernel
theorem dX12_known_1 : decode cX12_known 1 = .ok (.iconst 0, 1) := by decide +kernel
theorem dX12_known_2 : decode cX12_known 2 = .ok (.iconst 5, 1) := by decide +kernel
theorem dX12_known_3 : decode cX12_known 3 = .ok (.invokestatic 230, 3) := by decide +kernel
theorem dX12_known_6 : decode cX12_known 6 = .ok (.ifCond .ne 5, 3) := by decide +kernel
theorem dX12_known_9 : decode cX12_known 9 = .ok (.iconst (-1), 1) := by decide +kernel
theorem dX12_known_10 : decode cX12_known 10 = .ok (.ireturn, 1) := by decide +kernel
theorem dX12_known_11 : decode cX12_known 11 = .ok (.bipush 32, 2) := by decide +kernel
theorem dX12_known_13 : decode cX12_known 13 = .ok (.istore_n 2, 1) := by decide +kernel
theorem dX12_known_14 : decode cX12_known 14 = .ok (.iconst (-1), 1) := by decide +kernel
theorem dX12_known_15 : decode cX12_known 15 = .ok (.istore_n 3, 1) := by decide +kernel
theorem dX12_known_16 : decode cX12_known 16 = .ok (.bipush 32, 2) := by decide +kernel
theorem dX12_known_18 : decode cX12_known 18 = .ok (.istore 4, 2) := by decide +kernel
theorem dX12_known_20 : decode cX12_known 20 = .ok (.iconst (-1), 1) := by decide +kernel
theorem dX12_known_21 : decode cX12_known 21 = .ok (.istore 5, 2) := by decide +kernel
theorem dX12_known_23 : decode cX12_known 23 = .ok (.bipush 61, 2) := by decide +kernel
theorem dX12_known_25 : decode cX12_known 25 = .ok (.istore 6, 2) := by decide +kernel
theorem dX12_known_27 : decode cX12_known 27 = .ok (.iconst 0, 1) := by decide +kernel
theorem dX12_known_28 : decode cX12_known 28 = .ok (.istore 7, 2) := by decide +kernel
theorem dX12_known_30 : decode cX12_known 30 = .ok (.iconst 0, 1) := by decide +kernel
theorem dX12_known_31 : decode cX12_known 31 = .ok (.istore 8, 2) := by decide +kernel
theorem dX12_known_33 : decode cX12_known 33 = .ok (.iload 8, 2) := by decide +kernel
theorem dX12_known_35 : decode cX12_known 35 = .ok (.aload_n 0, 1) := by decide +kernel
theorem dX12_known_36 : decode cX12_known 36 = .ok (.getfield 301, 3) := by decide +kernel
theorem dX12_known_39 : decode cX12_known 39 = .ok (.if_icmp .ge 173, 3) := by decide +kernel
theorem dX12_known_42 : decode cX12_known 42 = .ok (.aload_n 0, 1) := by decide +kernel
theorem dX12_known_43 : decode cX12_known 43 = .ok (.iload 8, 2) := by decide +kernel
theorem dX12_known_45 : decode cX12_known 45 = .ok (.invokevirtual 313, 3) := by decide +kernel
theorem dX12_known_48 : decode cX12_known 48 = .ok (.bipush (-2), 2) := by decide +kernel
theorem dX12_known_50 : decode cX12_known 50 = .ok (.if_icmp .eq 6, 3) := by decide +kernel
theorem dX12_known_53 : decode cX12_known 53 = .ok (.goto 153, 3) := by decide +kernel
theorem dX12_known_56 : decode cX12_known 56 = .ok (.aload_n 0, 1) := by decide +kernel
theorem dX12_known_57 : decode cX12_known 57 = .ok (.getfield 81, 3) := by decide +kernel
theorem dX12_known_60 : decode cX12_known 60 = .ok (.iload 8, 2) := by decide +kernel
theorem dX12_known_62 : decode cX12_known 62 = .ok (.iaload, 1) := by decide +kernel
theorem dX12_known_63 : decode cX12_known 63 = .ok (.iload_n 2, 1) := by decide +kernel
theorem dX12_known_64 : decode cX12_known 64 = .ok (.if_icmp .ge 13, 3) := by decide +kernel
theorem dX12_known_67 : decode cX12_known 67 = .ok (.aload_n 0, 1) := by decide +kernel
theorem dX12_known_68 : decode cX12_known 68 = .ok (.getfield 81, 3) := by decide +kernel
theorem dX12_known_71 : decode cX12_known 71 = .ok (.iload 8, 2) := by decide +kernel
theorem dX12_known_73 : decode cX12_known 73 = .ok (.iaload, 1) := by decide +kernel
theorem dX12_known_74 : decode cX12_known 74 = .ok (.goto 4, 3) := by decide +kernel
theorem dX12_known_77 : decode cX12_known 77 = .ok (.iload_n 2, 1) := by decide +kernel
theorem dX12_known_78 : decode cX12_known 78 = .ok (.istore_n 2, 1) := by decide +kernel
theorem dX12_known_79 : decode cX12_known 79 = .ok (.aload_n 0, 1) := by decide +kernel
theorem dX12_known_80 : decode cX12_known 80 = .ok (.getfield 81, 3) := by decide +kernel
theorem dX12_known_83 : decode cX12_known 83 = .ok (.iload 8, 2) := by decide +kernel
theorem dX12_known_85 : decode cX12_known 85 = .ok (.iaload, 1) := by decide +kernel
theorem dX12_known_86 : decode cX12_known 86 = .ok (.iload_n 3, 1) := by decide +kernel
theorem dX12_known_87 : decode cX12_known 87 = .ok (.if_icmp .le 13, 3) := by decide +kernel
theorem dX12_known_90 : decode cX12_known 90 = .ok (.aload_n 0, 1) := by decide +kernel
theorem dX12_known_91 : decode cX12_known 91 = .ok (.getfield 81, 3) := by decide +kernel
theorem dX12_known_94 : decode cX12_known 94 = .ok (.iload 8, 2) := by decide +kernel
theorem dX12_known_96 : decode cX12_known 96 = .ok (.iaload, 1) := by decide +kernel
theorem dX12_known_97 : decode cX12_known 97 = .ok (.goto 4, 3) := by decide +kernel
theorem dX12_known_100 : decode cX12_known 100 = .ok (.iload_n 3, 1) := by decide +kernel
theorem dX12_known_101 : decode cX12_known 101 = .ok (.istore_n 3, 1) := by decide +kernel
theorem dX12_known_102 : decode cX12_known 102 = .ok (.aload_n 0, 1) := by decide +kernel
theorem dX12_known_103 : decode cX12_known 103 = .ok (.getfield 84, 3) := by decide +kernel
theorem dX12_known_106 : decode cX12_known 106 = .ok (.iload 8, 2) := by decide +kernel
theorem dX12_known_108 : decode cX12_known 108 = .ok (.iaload, 1) := by decide +kernel
theorem dX12_known_109 : decode cX12_known 109 = .ok (.iload 4, 2) := by decide +kernel
theorem dX12_known_111 : decode cX12_known 111 = .ok (.if_icmp .ge 13, 3) := by decide +kernel
theorem dX12_known_114 : decode cX12_known 114 = .ok (.aload_n 0, 1) := by decide +kernel
theorem dX12_known_115 : decode cX12_known 115 = .ok (.getfield 84, 3) := by decide +kernel
theorem dX12_known_118 : decode cX12_known 118 = .ok (.iload 8, 2) := by decide +kernel
theorem dX12_known_120 : decode cX12_known 120 = .ok (.iaload, 1) := by decide +kernel
theorem dX12_known_121 : decode cX12_known 121 = .ok (.goto 5, 3) := by decide +kernel
theorem dX12_known_124 : decode cX12_known 124 = .ok (.iload 4, 2) := by decide +kernel
theorem dX12_known_126 : decode cX12_known 126 = .ok (.istore 4, 2) := by decide +kernel
theorem dX12_known_128 : decode cX12_known 128 = .ok (.aload_n 0, 1) := by decide +kernel
theorem dX12_known_129 : decode cX12_known 129 = .ok (.getfield 84, 3) := by decide +kernel
theorem dX12_known_132 : decode cX12_known 132 = .ok (.iload 8, 2) := by decide +kernel
theorem dX12_known_134 : decode cX12_known 134 = .ok (.iaload, 1) := by decide +kernel
theorem dX12_known_135 : decode cX12_known 135 = .ok (.iload 5, 2) := by decide +kernel
theorem dX12_known_137 : decode cX12_known 137 = .ok (.if_icmp .le 13, 3) := by decide +kernel
theorem dX12_known_140 : decode cX12_known 140 = .ok (.aload_n 0, 1) := by decide +kernel
theorem dX12_known_141 : decode cX12_known 141 = .ok (.getfield 84, 3) := by decide +kernel
theorem dX12_known_144 : decode cX12_known 144 = .ok (.iload 8, 2) := by decide +kernel
theorem dX12_known_146 : decode cX12_known 146 = .ok (.iaload, 1) := by decide +kernel
theorem dX12_known_147 : decode cX12_known 147 = .ok (.goto 5, 3) := by decide +kernel
theorem dX12_known_150 : decode cX12_known 150 = .ok (.iload 5, 2) := by decide +kernel
theorem dX12_known_152 : decode cX12_known 152 = .ok (.istore 5, 2) := by decide +kernel
theorem dX12_known_154 : decode cX12_known 154 = .ok (.aload_n 0, 1) := by decide +kernel
theorem dX12_known_155 : decode cX12_known 155 = .ok (.getfield 87, 3) := by decide +kernel
theorem dX12_known_158 : decode cX12_known 158 = .ok (.iload 8, 2) := by decide +kernel
theorem dX12_known_160 : decode cX12_known 160 = .ok (.iaload, 1) := by decide +kernel
theorem dX12_known_161 : decode cX12_known 161 = .ok (.iload 6, 2) := by decide +kernel
theorem dX12_known_163 : decode cX12_known 163 = .ok (.if_icmp .ge 13, 3) := by decide +kernel
theorem dX12_known_166 : decode cX12_known 166 = .ok (.aload_n 0, 1) := by decide +kernel
theorem dX12_known_167 : decode cX12_known 167 = .ok (.getfield 87, 3) := by decide +kernel
theorem dX12_known_170 : decode cX12_known 170 = .ok (.iload 8, 2) := by decide +kernel
theorem dX12_known_172 : decode cX12_known 172 = .ok (.iaload, 1) := by decide +kernel
theorem dX12_known_173 : decode cX12_known 173 = .ok (.goto 5, 3) := by decide +kernel
theorem dX12_known_176 : decode cX12_known 176 = .ok (.iload 6, 2) := by decide +kernel
theorem dX12_known_178 : decode cX12_known 178 = .ok (.istore 6, 2) := by decide +kernel
theorem dX12_known_180 : decode cX12_known 180 = .ok (.aload_n 0, 1) := by decide +kernel
theorem dX12_known_181 : decode cX12_known 181 = .ok (.getfield 87, 3) := by decide +kernel
theorem dX12_known_184 : decode cX12_known 184 = .ok (.iload 8, 2) := by decide +kernel
theorem dX12_known_186 : decode cX12_known 186 = .ok (.iaload, 1) := by decide +kernel
theorem dX12_known_187 : decode cX12_known 187 = .ok (.iload 7, 2) := by decide +kernel
theorem dX12_known_189 : decode cX12_known 189 = .ok (.if_icmp .le 13, 3) := by decide +kernel
theorem dX12_known_192 : decode cX12_known 192 = .ok (.aload_n 0, 1) := by decide +kernel
theorem dX12_known_193 : decode cX12_known 193 = .ok (.getfield 87, 3) := by decide +kernel
theorem dX12_known_196 : decode cX12_known 196 = .ok (.iload 8, 2) := by decide +kernel
theorem dX12_known_198 : decode cX12_known 198 = .ok (.iaload, 1) := by decide +kernel
theorem dX12_known_199 : decode cX12_known 199 = .ok (.goto 5, 3) := by decide +kernel
theorem dX12_known_202 : decode cX12_known 202 = .ok (.iload 7, 2) := by decide +kernel
theorem dX12_known_204 : decode cX12_known 204 = .ok (.istore 7, 2) := by decide +kernel
theorem dX12_known_206 : decode cX12_known 206 = .ok (.iinc 8 1, 3) := by decide +kernel
theorem dX12_known_209 : decode cX12_known 209 = .ok (.goto (-176), 3) := by decide +kernel
theorem dX12_known_212 : decode cX12_known 212 = .ok (.iload 7, 2) := by decide +kernel
theorem dX12_known_214 : decode cX12_known 214 = .ok (.ifCond .ne 6, 3) := by decide +kernel
theorem dX12_known_217 : decode cX12_known 217 = .ok (.bipush (-2), 2) := by decide +kernel
theorem dX12_known_219 : decode cX12_known 219 = .ok (.ireturn, 1) := by decide +kernel
theorem dX12_known_220 : decode cX12_known 220 = .ok (.iload_n 1, 1) := by decide +kernel
theorem dX12_known_221 : decode cX12_known 221 = .ok (.tableswitch 42 0 3 #[31, 33, 36, 39], 31) := by decide +kernel
theorem dX12_known_252 : decode cX12_known 252 = .ok (.iload_n 2, 1) := by decide +kernel
theorem dX12_known_253 : decode cX12_known 253 = .ok (.ireturn, 1) := by decide +kernel
theorem dX12_known_254 : decode cX12_known 254 = .ok (.iload 5, 2) := by decide +kernel
theorem dX12_known_256 : decode cX12_known 256 = .ok (.ireturn, 1) := by decide +kernel
theorem dX12_known_257 : decode cX12_known 257 = .ok (.iload 6, 2) := by decide +kernel
theorem dX12_known_259 : decode cX12_known 259 = .ok (.ireturn, 1) := by decide +kernel
theorem dX12_known_260 : decode cX12_known 260 = .ok (.iload 7, 2) := by decide +kernel
theorem dX12_known_262 : decode cX12_known 262 = .ok (.ireturn, 1) := by decide +kernel
theorem dX12_known_263 : decode cX12_known 263 = .ok (.iload 6, 2) := by decide +kernel
theorem dX12_known_265 : decode cX12_known 265 = .ok (.iload 7, 2) := by decide +kernel
theorem dX12_known_267 : decode cX12_known 267 = .ok (.if_icmp .ne 9, 3) := by decide +kernel
theorem dX12_known_270 : decode cX12_known 270 = .ok (.iload_n 3, 1) := by decide +kernel
theorem dX12_known_271 : decode cX12_known 271 = .ok (.iload 4, 2) := by decide +kernel
theorem dX12_known_273 : decode cX12_known 273 = .ok (.if_icmp .le 6, 3) := by decide +kernel
theorem dX12_known_276 : decode cX12_known 276 = .ok (.bipush (-2), 2) := by decide +kernel
theorem dX12_known_278 : decode cX12_known 278 = .ok (.ireturn, 1) := by decide +kernel
theorem dX12_known_279 : decode cX12_known 279 = .ok (.iload_n 1, 1) := by decide +kernel
theorem dX12_known_280 : decode cX12_known 280 = .ok (.iconst 4, 1) := by decide +kernel
theorem dX12_known_281 : decode cX12_known 281 = .ok (.if_icmp .ne 7, 3) := by decide +kernel
theorem dX12_known_284 : decode cX12_known 284 = .ok (.iload_n 3, 1) := by decide +kernel
theorem dX12_known_285 : decode cX12_known 285 = .ok (.goto 5, 3) := by decide +kernel
theorem dX12_known_288 : decode cX12_known 288 = .ok (.iload 4, 2) := by decide +kernel
theorem dX12_known_290 : decode cX12_known 290 = .ok (.ireturn, 1) := by decide +kernel
theorem dX12_feed_0 : decode cX12_feed 0 = .ok (.iload_n 1, 1) := by decide +kernel
theorem dX12_feed_1 : decode cX12_feed 1 = .ok (.iconst 1, 1) := by decide +kernel
theorem dX12_feed_2 : decode cX12_feed 2 = .ok (.iconst 4, 1) := by decide +kernel
theorem dX12_feed_3 : decode cX12_feed 3 = .ok (.invokestatic 230, 3) := by decide +kernel
theorem dX12_feed_6 : decode cX12_feed 6 = .ok (.ifCond .ne 5, 3) := by decide +kernel
theorem dX12_feed_9 : decode cX12_feed 9 = .ok (.iconst (-1), 1) := by decide +kernel
theorem dX12_feed_10 : decode cX12_feed 10 = .ok (.ireturn, 1) := by decide +kernel
theorem dX12_feed_11 : decode cX12_feed 11 = .ok (.aload_n 0, 1) := by decide +kernel
theorem dX12_feed_12 : decode cX12_feed 12 = .ok (.getfield 316, 3) := by decide +kernel
theorem dX12_feed_15 : decode cX12_feed 15 = .ok (.iload_n 1, 1) := by decide +kernel
theorem dX12_feed_16 : decode cX12_feed 16 = .ok (.iadd, 1) := by decide +kernel
theorem dX12_feed_17 : decode cX12_feed 17 = .ok (.sipush 160, 3) := by decide +kernel
theorem dX12_feed_20 : decode cX12_feed 20 = .ok (.if_icmp .le 6, 3) := by decide +kernel
theorem dX12_feed_23 : decode cX12_feed 23 = .ok (.bipush (-3), 2) := by decide +kernel
theorem dX12_feed_25 : decode cX12_feed 25 = .ok (.ireturn, 1) := by decide +kernel
theorem dX12_feed_26 : decode cX12_feed 26 = .ok (.iconst 0, 1) := by decide +kernel
theorem dX12_feed_27 : decode cX12_feed 27 = .ok (.istore_n 3, 1) := by decide +kernel
theorem dX12_feed_28 : decode cX12_feed 28 = .ok (.iload_n 3, 1) := by decide +kernel
theorem dX12_feed_29 : decode cX12_feed 29 = .ok (.iload_n 1, 1) := by decide +kernel
theorem dX12_feed_30 : decode cX12_feed 30 = .ok (.if_icmp .ge 35, 3) := by decide +kernel
theorem dX12_feed_33 : decode cX12_feed 33 = .ok (.aload_n 0, 1) := by decide +kernel
theorem dX12_feed_34 : decode cX12_feed 34 = .ok (.getfield 96, 3) := by decide +kernel
theorem dX12_feed_37 : decode cX12_feed 37 = .ok (.aload_n 0, 1) := by decide +kernel
theorem dX12_feed_38 : decode cX12_feed 38 = .ok (.getfield 316, 3) := by decide +kernel
theorem dX12_feed_41 : decode cX12_feed 41 = .ok (.iload_n 2, 1) := by decide +kernel
theorem dX12_feed_42 : decode cX12_feed 42 = .ok (.bipush 8, 2) := by decide +kernel
theorem dX12_feed_44 : decode cX12_feed 44 = .ok (.iload_n 3, 1) := by decide +kernel
theorem dX12_feed_45 : decode cX12_feed 45 = .ok (.imul, 1) := by decide +kernel
theorem dX12_feed_46 : decode cX12_feed 46 = .ok (.ishr, 1) := by decide +kernel
theorem dX12_feed_47 : decode cX12_feed 47 = .ok (.i2b, 1) := by decide +kernel
theorem dX12_feed_48 : decode cX12_feed 48 = .ok (.bastore, 1) := by decide +kernel
theorem dX12_feed_49 : decode cX12_feed 49 = .ok (.aload_n 0, 1) := by decide +kernel
theorem dX12_feed_50 : decode cX12_feed 50 = .ok (.dup, 1) := by decide +kernel
theorem dX12_feed_51 : decode cX12_feed 51 = .ok (.getfield 316, 3) := by decide +kernel
theorem dX12_feed_54 : decode cX12_feed 54 = .ok (.iconst 1, 1) := by decide +kernel
