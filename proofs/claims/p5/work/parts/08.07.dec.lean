theorem dX10_init_0 : decode cX10_init 0 = .ok (.aload_n 0, 1) := by decide +kernel
theorem dX10_init_1 : decode cX10_init 1 = .ok (.invokespecial 1, 3) := by decide +kernel
theorem dX10_init_4 : decode cX10_init 4 = .ok (.aload_n 0, 1) := by decide +kernel
theorem dX10_init_5 : decode cX10_init 5 = .ok (.iload_n 1, 1) := by decide +kernel
theorem dX10_init_6 : decode cX10_init 6 = .ok (.putfield 7, 3) := by decide +kernel
theorem dX10_init_9 : decode cX10_init 9 = .ok (.aload_n 0, 1) := by decide +kernel
theorem dX10_init_10 : decode cX10_init 10 = .ok (.iload_n 2, 1) := by decide +kernel
theorem dX10_init_11 : decode cX10_init 11 = .ok (.putfield 13, 3) := by decide +kernel
theorem dX10_init_14 : decode cX10_init 14 = .ok (.aload_n 0, 1) := by decide +kernel
theorem dX10_init_15 : decode cX10_init 15 = .ok (.iload_n 3, 1) := by decide +kernel
theorem dX10_init_16 : decode cX10_init 16 = .ok (.putfield 16, 3) := by decide +kernel
theorem dX10_init_19 : decode cX10_init 19 = .ok (.aload_n 0, 1) := by decide +kernel
theorem dX10_init_20 : decode cX10_init 20 = .ok (.iload 4, 2) := by decide +kernel
theorem dX10_init_22 : decode cX10_init 22 = .ok (.putfield 19, 3) := by decide +kernel
theorem dX10_init_25 : decode cX10_init 25 = .ok (.aload_n 0, 1) := by decide +kernel
theorem dX10_init_26 : decode cX10_init 26 = .ok (.aload 5, 2) := by decide +kernel
theorem dX10_init_28 : decode cX10_init 28 = .ok (.putfield 22, 3) := by decide +kernel
theorem dX10_init_31 : decode cX10_init 31 = .ok (.return_, 1) := by decide +kernel
theorem dX10_worth_0 : decode cX10_worth 0 = .ok (.iconst (-1), 1) := by decide +kernel
theorem dX10_worth_1 : decode cX10_worth 1 = .ok (.istore_n 3, 1) := by decide +kernel
theorem dX10_worth_2 : decode cX10_worth 2 = .ok (.iconst 1, 1) := by decide +kernel
theorem dX10_worth_3 : decode cX10_worth 3 = .ok (.istore 4, 2) := by decide +kernel
theorem dX10_worth_5 : decode cX10_worth 5 = .ok (.iconst 0, 1) := by decide +kernel
theorem dX10_worth_6 : decode cX10_worth 6 = .ok (.istore 5, 2) := by decide +kernel
theorem dX10_worth_8 : decode cX10_worth 8 = .ok (.iload 5, 2) := by decide +kernel
theorem dX10_worth_10 : decode cX10_worth 10 = .ok (.aload_n 0, 1) := by decide +kernel
theorem dX10_worth_11 : decode cX10_worth 11 = .ok (.getfield 22, 3) := by decide +kernel
theorem dX10_worth_14 : decode cX10_worth 14 = .ok (.arraylength, 1) := by decide +kernel
theorem dX10_worth_15 : decode cX10_worth 15 = .ok (.if_icmp .ge 181, 3) := by decide +kernel
theorem dX10_worth_18 : decode cX10_worth 18 = .ok (.aload_n 0, 1) := by decide +kernel
theorem dX10_worth_19 : decode cX10_worth 19 = .ok (.getfield 22, 3) := by decide +kernel
theorem dX10_worth_22 : decode cX10_worth 22 = .ok (.iload 5, 2) := by decide +kernel
theorem dX10_worth_24 : decode cX10_worth 24 = .ok (.iaload, 1) := by decide +kernel
theorem dX10_worth_25 : decode cX10_worth 25 = .ok (.istore 6, 2) := by decide +kernel
theorem dX10_worth_27 : decode cX10_worth 27 = .ok (.iload 6, 2) := by decide +kernel
theorem dX10_worth_29 : decode cX10_worth 29 = .ok (.bipush (-11), 2) := by decide +kernel
theorem dX10_worth_31 : decode cX10_worth 31 = .ok (.if_icmp .le 38, 3) := by decide +kernel
theorem dX10_worth_34 : decode cX10_worth 34 = .ok (.iload_n 3, 1) := by decide +kernel
theorem dX10_worth_35 : decode cX10_worth 35 = .ok (.iconst 1, 1) := by decide +kernel
theorem dX10_worth_36 : decode cX10_worth 36 = .ok (.iadd, 1) := by decide +kernel
theorem dX10_worth_37 : decode cX10_worth 37 = .ok (.aload_n 2, 1) := by decide +kernel
theorem dX10_worth_38 : decode cX10_worth 38 = .ok (.arraylength, 1) := by decide +kernel
theorem dX10_worth_39 : decode cX10_worth 39 = .ok (.iconst 1, 1) := by decide +kernel
theorem dX10_worth_40 : decode cX10_worth 40 = .ok (.isub, 1) := by decide +kernel
theorem dX10_worth_41 : decode cX10_worth 41 = .ok (.invokestatic 26, 3) := by decide +kernel
theorem dX10_worth_44 : decode cX10_worth 44 = .ok (.istore_n 3, 1) := by decide +kernel
theorem dX10_worth_45 : decode cX10_worth 45 = .ok (.aload_n 2, 1) := by decide +kernel
theorem dX10_worth_46 : decode cX10_worth 46 = .ok (.iload_n 3, 1) := by decide +kernel
theorem dX10_worth_47 : decode cX10_worth 47 = .ok (.iload 6, 2) := by decide +kernel
theorem dX10_worth_49 : decode cX10_worth 49 = .ok (.ifCond .lt 8, 3) := by decide +kernel
theorem dX10_worth_52 : decode cX10_worth 52 = .ok (.iload 6, 2) := by decide +kernel
theorem dX10_worth_54 : decode cX10_worth 54 = .ok (.goto 11, 3) := by decide +kernel
theorem dX10_worth_57 : decode cX10_worth 57 = .ok (.aload_n 1, 1) := by decide +kernel
theorem dX10_worth_58 : decode cX10_worth 58 = .ok (.iconst (-1), 1) := by decide +kernel
theorem dX10_worth_59 : decode cX10_worth 59 = .ok (.iload 6, 2) := by decide +kernel
theorem dX10_worth_61 : decode cX10_worth 61 = .ok (.isub, 1) := by decide +kernel
theorem dX10_worth_62 : decode cX10_worth 62 = .ok (.invokestatic 32, 3) := by decide +kernel
theorem dX10_worth_65 : decode cX10_worth 65 = .ok (.iastore, 1) := by decide +kernel
theorem dX10_worth_66 : decode cX10_worth 66 = .ok (.goto 124, 3) := by decide +kernel
theorem dX10_worth_69 : decode cX10_worth 69 = .ok (.iload_n 3, 1) := by decide +kernel
theorem dX10_worth_70 : decode cX10_worth 70 = .ok (.ifCond .ge 5, 3) := by decide +kernel
theorem dX10_worth_73 : decode cX10_worth 73 = .ok (.iconst 0, 1) := by decide +kernel
theorem dX10_worth_74 : decode cX10_worth 74 = .ok (.ireturn, 1) := by decide +kernel
theorem dX10_worth_75 : decode cX10_worth 75 = .ok (.iload 6, 2) := by decide +kernel
theorem dX10_worth_77 : decode cX10_worth 77 = .ok (.bipush (-24), 2) := by decide +kernel
theorem dX10_worth_79 : decode cX10_worth 79 = .ok (.if_icmp .ne 21, 3) := by decide +kernel
theorem dX10_worth_82 : decode cX10_worth 82 = .ok (.iload 4, 2) := by decide +kernel
theorem dX10_worth_84 : decode cX10_worth 84 = .ok (.ifCond .eq 7, 3) := by decide +kernel
theorem dX10_worth_87 : decode cX10_worth 87 = .ok (.aload_n 2, 1) := by decide +kernel
theorem dX10_worth_88 : decode cX10_worth 88 = .ok (.iload_n 3, 1) := by decide +kernel
theorem dX10_worth_89 : decode cX10_worth 89 = .ok (.iaload, 1) := by decide +kernel
theorem dX10_worth_90 : decode cX10_worth 90 = .ok (.ireturn, 1) := by decide +kernel
theorem dX10_worth_91 : decode cX10_worth 91 = .ok (.iconst 1, 1) := by decide +kernel
theorem dX10_worth_92 : decode cX10_worth 92 = .ok (.istore 4, 2) := by decide +kernel
theorem dX10_worth_94 : decode cX10_worth 94 = .ok (.iinc 3 (-1), 3) := by decide +kernel
theorem dX10_worth_97 : decode cX10_worth 97 = .ok (.goto 93, 3) := by decide +kernel
theorem dX10_worth_100 : decode cX10_worth 100 = .ok (.iload 6, 2) := by decide +kernel
theorem dX10_worth_102 : decode cX10_worth 102 = .ok (.bipush (-23), 2) := by decide +kernel
theorem dX10_worth_104 : decode cX10_worth 104 = .ok (.if_icmp .ne 22, 3) := by decide +kernel
theorem dX10_worth_107 : decode cX10_worth 107 = .ok (.aload_n 2, 1) := by decide +kernel
theorem dX10_worth_108 : decode cX10_worth 108 = .ok (.iload_n 3, 1) := by decide +kernel
theorem dX10_worth_109 : decode cX10_worth 109 = .ok (.iaload, 1) := by decide +kernel
theorem dX10_worth_110 : decode cX10_worth 110 = .ok (.ifCond .eq 7, 3) := by decide +kernel
theorem dX10_worth_113 : decode cX10_worth 113 = .ok (.iconst 1, 1) := by decide +kernel
theorem dX10_worth_114 : decode cX10_worth 114 = .ok (.goto 4, 3) := by decide +kernel
theorem dX10_worth_117 : decode cX10_worth 117 = .ok (.iconst 0, 1) := by decide +kernel
theorem dX10_worth_118 : decode cX10_worth 118 = .ok (.istore 4, 2) := by decide +kernel
theorem dX10_worth_120 : decode cX10_worth 120 = .ok (.iinc 3 (-1), 3) := by decide +kernel
theorem dX10_worth_123 : decode cX10_worth 123 = .ok (.goto 67, 3) := by decide +kernel
theorem dX10_worth_126 : decode cX10_worth 126 = .ok (.iload 6, 2) := by decide +kernel
theorem dX10_worth_128 : decode cX10_worth 128 = .ok (.bipush (-21), 2) := by decide +kernel
theorem dX10_worth_130 : decode cX10_worth 130 = .ok (.if_icmp .ne 20, 3) := by decide +kernel
theorem dX10_worth_133 : decode cX10_worth 133 = .ok (.aload_n 2, 1) := by decide +kernel
theorem dX10_worth_134 : decode cX10_worth 134 = .ok (.iload_n 3, 1) := by decide +kernel
theorem dX10_worth_135 : decode cX10_worth 135 = .ok (.aload_n 2, 1) := by decide +kernel
theorem dX10_worth_136 : decode cX10_worth 136 = .ok (.iload_n 3, 1) := by decide +kernel
theorem dX10_worth_137 : decode cX10_worth 137 = .ok (.iaload, 1) := by decide +kernel
theorem dX10_worth_138 : decode cX10_worth 138 = .ok (.ifCond .ne 7, 3) := by decide +kernel
theorem dX10_worth_141 : decode cX10_worth 141 = .ok (.iconst 1, 1) := by decide +kernel
theorem dX10_worth_142 : decode cX10_worth 142 = .ok (.goto 4, 3) := by decide +kernel
theorem dX10_worth_145 : decode cX10_worth 145 = .ok (.iconst 0, 1) := by decide +kernel
theorem dX10_worth_146 : decode cX10_worth 146 = .ok (.iastore, 1) := by decide +kernel
theorem dX10_worth_147 : decode cX10_worth 147 = .ok (.goto 43, 3) := by decide +kernel
theorem dX10_worth_150 : decode cX10_worth 150 = .ok (.iload 6, 2) := by decide +kernel
theorem dX10_worth_152 : decode cX10_worth 152 = .ok (.bipush (-22), 2) := by decide +kernel
theorem dX10_worth_154 : decode cX10_worth 154 = .ok (.if_icmp .ne 13, 3) := by decide +kernel
theorem dX10_worth_157 : decode cX10_worth 157 = .ok (.aload_n 2, 1) := by decide +kernel
theorem dX10_worth_158 : decode cX10_worth 158 = .ok (.iload_n 3, 1) := by decide +kernel
theorem dX10_worth_159 : decode cX10_worth 159 = .ok (.aload_n 2, 1) := by decide +kernel
theorem dX10_worth_160 : decode cX10_worth 160 = .ok (.iload_n 3, 1) := by decide +kernel
theorem dX10_worth_161 : decode cX10_worth 161 = .ok (.iaload, 1) := by decide +kernel
theorem dX10_worth_162 : decode cX10_worth 162 = .ok (.ineg, 1) := by decide +kernel
theorem dX10_worth_163 : decode cX10_worth 163 = .ok (.iastore, 1) := by decide +kernel
theorem dX10_worth_164 : decode cX10_worth 164 = .ok (.goto 26, 3) := by decide +kernel
theorem dX10_worth_167 : decode cX10_worth 167 = .ok (.iload_n 3, 1) := by decide +kernel
theorem dX10_worth_168 : decode cX10_worth 168 = .ok (.ifCond .le 22, 3) := by decide +kernel
theorem dX10_worth_171 : decode cX10_worth 171 = .ok (.iinc 3 (-1), 3) := by decide +kernel
theorem dX10_worth_174 : decode cX10_worth 174 = .ok (.aload_n 2, 1) := by decide +kernel
theorem dX10_worth_175 : decode cX10_worth 175 = .ok (.iload_n 3, 1) := by decide +kernel
theorem dX10_worth_176 : decode cX10_worth 176 = .ok (.iload 6, 2) := by decide +kernel
theorem dX10_worth_178 : decode cX10_worth 178 = .ok (.aload_n 2, 1) := by decide +kernel
theorem dX10_worth_179 : decode cX10_worth 179 = .ok (.iload_n 3, 1) := by decide +kernel
theorem dX10_worth_180 : decode cX10_worth 180 = .ok (.iaload, 1) := by decide +kernel
theorem dX10_worth_181 : decode cX10_worth 181 = .ok (.aload_n 2, 1) := by decide +kernel
theorem dX10_worth_182 : decode cX10_worth 182 = .ok (.iload_n 3, 1) := by decide +kernel
theorem dX10_worth_183 : decode cX10_worth 183 = .ok (.iconst 1, 1) := by decide +kernel
theorem dX10_worth_184 : decode cX10_worth 184 = .ok (.iadd, 1) := by decide +kernel
theorem dX10_worth_185 : decode cX10_worth 185 = .ok (.iaload, 1) := by decide +kernel
theorem dX10_worth_186 : decode cX10_worth 186 = .ok (.invokestatic 36, 3) := by decide +kernel
theorem dX10_worth_189 : decode cX10_worth 189 = .ok (.iastore, 1) := by decide +kernel
theorem dX10_worth_190 : decode cX10_worth 190 = .ok (.iinc 5 1, 3) := by decide +kernel
theorem dX10_worth_193 : decode cX10_worth 193 = .ok (.goto (-185), 3) := by decide +kernel
theorem dX10_worth_196 : decode cX10_worth 196 = .ok (.iconst 0, 1) := by decide +kernel
theorem dX10_worth_197 : decode cX10_worth 197 = .ok (.ireturn, 1) := by decide +kernel
theorem dX10_nameAt_0 : decode cX10_nameAt 0 = .ok (.iload_n 1, 1) := by decide +kernel
theorem dX10_nameAt_1 : decode cX10_nameAt 1 = .ok (.ifCond .lt 9, 3) := by decide +kernel
theorem dX10_nameAt_4 : decode cX10_nameAt 4 = .ok (.iload_n 1, 1) := by decide +kernel
theorem dX10_nameAt_5 : decode cX10_nameAt 5 = .ok (.aload_n 0, 1) := by decide +kernel
theorem dX10_nameAt_6 : decode cX10_nameAt 6 = .ok (.arraylength, 1) := by decide +kernel
theorem dX10_nameAt_7 : decode cX10_nameAt 7 = .ok (.if_icmp .lt 7, 3) := by decide +kernel
theorem dX10_nameAt_10 : decode cX10_nameAt 10 = .ok (.iconst 0, 1) := by decide +kernel
theorem dX10_nameAt_11 : decode cX10_nameAt 11 = .ok (.goto 6, 3) := by decide +kernel
theorem dX10_nameAt_14 : decode cX10_nameAt 14 = .ok (.aload_n 0, 1) := by decide +kernel
theorem dX10_nameAt_15 : decode cX10_nameAt 15 = .ok (.iload_n 1, 1) := by decide +kernel
theorem dX10_nameAt_16 : decode cX10_nameAt 16 = .ok (.iaload, 1) := by decide +kernel
theorem dX10_nameAt_17 : decode cX10_nameAt 17 = .ok (.ireturn, 1) := by decide +kernel
theorem dX10_joined_0 : decode cX10_joined 0 = .ok (.iload_n 0, 1) := by decide +kernel
theorem dX10_joined_1 : decode cX10_joined 1 = .ok (.tableswitch 152 (-20) (-11) #[140, 128, 124, 120, 116, 105, 94, 83, 69, 55], 55) := by decide +kernel
theorem dX10_joined_56 : decode cX10_joined 56 = .ok (.iload_n 1, 1) := by decide +kernel
theorem dX10_joined_57 : decode cX10_joined 57 = .ok (.ifCond .ne 7, 3) := by decide +kernel
theorem dX10_joined_60 : decode cX10_joined 60 = .ok (.iload_n 2, 1) := by decide +kernel
theorem dX10_joined_61 : decode cX10_joined 61 = .ok (.ifCond .eq 7, 3) := by decide +kernel
theorem dX10_joined_64 : decode cX10_joined 64 = .ok (.iconst 1, 1) := by decide +kernel
theorem dX10_joined_65 : decode cX10_joined 65 = .ok (.goto 4, 3) := by decide +kernel
theorem dX10_joined_68 : decode cX10_joined 68 = .ok (.iconst 0, 1) := by decide +kernel
theorem dX10_joined_69 : decode cX10_joined 69 = .ok (.ireturn, 1) := by decide +kernel
theorem dX10_joined_70 : decode cX10_joined 70 = .ok (.iload_n 1, 1) := by decide +kernel
theorem dX10_joined_71 : decode cX10_joined 71 = .ok (.ifCond .eq 11, 3) := by decide +kernel
theorem dX10_joined_74 : decode cX10_joined 74 = .ok (.iload_n 2, 1) := by decide +kernel
theorem dX10_joined_75 : decode cX10_joined 75 = .ok (.ifCond .eq 7, 3) := by decide +kernel
theorem dX10_joined_78 : decode cX10_joined 78 = .ok (.iconst 1, 1) := by decide +kernel
theorem dX10_joined_79 : decode cX10_joined 79 = .ok (.goto 4, 3) := by decide +kernel
theorem dX10_joined_82 : decode cX10_joined 82 = .ok (.iconst 0, 1) := by decide +kernel
theorem dX10_joined_83 : decode cX10_joined 83 = .ok (.ireturn, 1) := by decide +kernel
theorem dX10_joined_84 : decode cX10_joined 84 = .ok (.iload_n 1, 1) := by decide +kernel
theorem dX10_joined_85 : decode cX10_joined 85 = .ok (.iload_n 2, 1) := by decide +kernel
theorem dX10_joined_86 : decode cX10_joined 86 = .ok (.if_icmp .ge 7, 3) := by decide +kernel
theorem dX10_joined_89 : decode cX10_joined 89 = .ok (.iconst 1, 1) := by decide +kernel
theorem dX10_joined_90 : decode cX10_joined 90 = .ok (.goto 4, 3) := by decide +kernel
theorem dX10_joined_93 : decode cX10_joined 93 = .ok (.iconst 0, 1) := by decide +kernel
theorem dX10_joined_94 : decode cX10_joined 94 = .ok (.ireturn, 1) := by decide +kernel
theorem dX10_joined_95 : decode cX10_joined 95 = .ok (.iload_n 1, 1) := by decide +kernel
theorem dX10_joined_96 : decode cX10_joined 96 = .ok (.iload_n 2, 1) := by decide +kernel
theorem dX10_joined_97 : decode cX10_joined 97 = .ok (.if_icmp .ne 7, 3) := by decide +kernel
theorem dX10_joined_100 : decode cX10_joined 100 = .ok (.iconst 1, 1) := by decide +kernel
theorem dX10_joined_101 : decode cX10_joined 101 = .ok (.goto 4, 3) := by decide +kernel
theorem dX10_joined_104 : decode cX10_joined 104 = .ok (.iconst 0, 1) := by decide +kernel
theorem dX10_joined_105 : decode cX10_joined 105 = .ok (.ireturn, 1) := by decide +kernel
theorem dX10_joined_106 : decode cX10_joined 106 = .ok (.iload_n 1, 1) := by decide +kernel
theorem dX10_joined_107 : decode cX10_joined 107 = .ok (.iload_n 2, 1) := by decide +kernel
theorem dX10_joined_108 : decode cX10_joined 108 = .ok (.if_icmp .le 7, 3) := by decide +kernel
theorem dX10_joined_111 : decode cX10_joined 111 = .ok (.iconst 1, 1) := by decide +kernel
theorem dX10_joined_112 : decode cX10_joined 112 = .ok (.goto 4, 3) := by decide +kernel
theorem dX10_joined_115 : decode cX10_joined 115 = .ok (.iconst 0, 1) := by decide +kernel
theorem dX10_joined_116 : decode cX10_joined 116 = .ok (.ireturn, 1) := by decide +kernel
theorem dX10_joined_117 : decode cX10_joined 117 = .ok (.iload_n 1, 1) := by decide +kernel
theorem dX10_joined_118 : decode cX10_joined 118 = .ok (.iload_n 2, 1) := by decide +kernel
theorem dX10_joined_119 : decode cX10_joined 119 = .ok (.iadd, 1) := by decide +kernel
theorem dX10_joined_120 : decode cX10_joined 120 = .ok (.ireturn, 1) := by decide +kernel
theorem dX10_joined_121 : decode cX10_joined 121 = .ok (.iload_n 1, 1) := by decide +kernel
theorem dX10_joined_122 : decode cX10_joined 122 = .ok (.iload_n 2, 1) := by decide +kernel
theorem dX10_joined_123 : decode cX10_joined 123 = .ok (.isub, 1) := by decide +kernel
theorem dX10_joined_124 : decode cX10_joined 124 = .ok (.ireturn, 1) := by decide +kernel
theorem dX10_joined_125 : decode cX10_joined 125 = .ok (.iload_n 1, 1) := by decide +kernel
theorem dX10_joined_126 : decode cX10_joined 126 = .ok (.iload_n 2, 1) := by decide +kernel
theorem dX10_joined_127 : decode cX10_joined 127 = .ok (.imul, 1) := by decide +kernel
theorem dX10_joined_128 : decode cX10_joined 128 = .ok (.ireturn, 1) := by decide +kernel
theorem dX10_joined_129 : decode cX10_joined 129 = .ok (.iload_n 2, 1) := by decide +kernel
theorem dX10_joined_130 : decode cX10_joined 130 = .ok (.ifCond .ne 7, 3) := by decide +kernel
theorem dX10_joined_133 : decode cX10_joined 133 = .ok (.iconst 0, 1) := by decide +kernel
theorem dX10_joined_134 : decode cX10_joined 134 = .ok (.goto 6, 3) := by decide +kernel
theorem dX10_joined_137 : decode cX10_joined 137 = .ok (.iload_n 1, 1) := by decide +kernel
theorem dX10_joined_138 : decode cX10_joined 138 = .ok (.iload_n 2, 1) := by decide +kernel
theorem dX10_joined_139 : decode cX10_joined 139 = .ok (.idiv, 1) := by decide +kernel
theorem dX10_joined_140 : decode cX10_joined 140 = .ok (.ireturn, 1) := by decide +kernel
theorem dX10_joined_141 : decode cX10_joined 141 = .ok (.iload_n 2, 1) := by decide +kernel
theorem dX10_joined_142 : decode cX10_joined 142 = .ok (.ifCond .ne 7, 3) := by decide +kernel
theorem dX10_joined_145 : decode cX10_joined 145 = .ok (.iconst 0, 1) := by decide +kernel
theorem dX10_joined_146 : decode cX10_joined 146 = .ok (.goto 6, 3) := by decide +kernel
theorem dX10_joined_149 : decode cX10_joined 149 = .ok (.iload_n 1, 1) := by decide +kernel
theorem dX10_joined_150 : decode cX10_joined 150 = .ok (.iload_n 2, 1) := by decide +kernel
theorem dX10_joined_151 : decode cX10_joined 151 = .ok (.irem, 1) := by decide +kernel
theorem dX10_joined_152 : decode cX10_joined 152 = .ok (.ireturn, 1) := by decide +kernel
theorem dX10_joined_153 : decode cX10_joined 153 = .ok (.iconst 0, 1) := by decide +kernel
theorem dX10_joined_154 : decode cX10_joined 154 = .ok (.ireturn, 1) := by decide +kernel
