theorem dX12_feed_55 : decode cX12_feed 55 = .ok (.iadd, 1) := by decide +kernel
theorem dX12_feed_56 : decode cX12_feed 56 = .ok (.putfield 316, 3) := by decide +kernel
theorem dX12_feed_59 : decode cX12_feed 59 = .ok (.iinc 3 1, 3) := by decide +kernel
theorem dX12_feed_62 : decode cX12_feed 62 = .ok (.goto (-34), 3) := by decide +kernel
theorem dX12_feed_65 : decode cX12_feed 65 = .ok (.aload_n 0, 1) := by decide +kernel
theorem dX12_feed_66 : decode cX12_feed 66 = .ok (.getfield 316, 3) := by decide +kernel
theorem dX12_feed_69 : decode cX12_feed 69 = .ok (.ireturn, 1) := by decide +kernel
theorem dX12_look_0 : decode cX12_look 0 = .ok (.aload_n 0, 1) := by decide +kernel
theorem dX12_look_1 : decode cX12_look 1 = .ok (.getfield 319, 3) := by decide +kernel
theorem dX12_look_4 : decode cX12_look 4 = .ok (.aload_n 0, 1) := by decide +kernel
theorem dX12_look_5 : decode cX12_look 5 = .ok (.getfield 316, 3) := by decide +kernel
theorem dX12_look_8 : decode cX12_look 8 = .ok (.if_icmp .ge 15, 3) := by decide +kernel
theorem dX12_look_11 : decode cX12_look 11 = .ok (.aload_n 0, 1) := by decide +kernel
theorem dX12_look_12 : decode cX12_look 12 = .ok (.getfield 96, 3) := by decide +kernel
theorem dX12_look_15 : decode cX12_look 15 = .ok (.aload_n 0, 1) := by decide +kernel
theorem dX12_look_16 : decode cX12_look 16 = .ok (.getfield 319, 3) := by decide +kernel
theorem dX12_look_19 : decode cX12_look 19 = .ok (.baload, 1) := by decide +kernel
theorem dX12_look_20 : decode cX12_look 20 = .ok (.goto 4, 3) := by decide +kernel
theorem dX12_look_23 : decode cX12_look 23 = .ok (.iconst (-1), 1) := by decide +kernel
theorem dX12_look_24 : decode cX12_look 24 = .ok (.ireturn, 1) := by decide +kernel
theorem dX12_faultHere_0 : decode cX12_faultHere 0 = .ok (.aload_n 0, 1) := by decide +kernel
theorem dX12_faultHere_1 : decode cX12_faultHere 1 = .ok (.getfield 322, 3) := by decide +kernel
theorem dX12_faultHere_4 : decode cX12_faultHere 4 = .ok (.ifCond .ge 11, 3) := by decide +kernel
theorem dX12_faultHere_7 : decode cX12_faultHere 7 = .ok (.aload_n 0, 1) := by decide +kernel
theorem dX12_faultHere_8 : decode cX12_faultHere 8 = .ok (.aload_n 0, 1) := by decide +kernel
theorem dX12_faultHere_9 : decode cX12_faultHere 9 = .ok (.getfield 319, 3) := by decide +kernel
theorem dX12_faultHere_12 : decode cX12_faultHere 12 = .ok (.putfield 322, 3) := by decide +kernel
theorem dX12_faultHere_15 : decode cX12_faultHere 15 = .ok (.return_, 1) := by decide +kernel
theorem dX12_lay_0 : decode cX12_lay 0 = .ok (.aload_n 0, 1) := by decide +kernel
theorem dX12_lay_1 : decode cX12_lay 1 = .ok (.getfield 118, 3) := by decide +kernel
theorem dX12_lay_4 : decode cX12_lay 4 = .ok (.sipush 170, 3) := by decide +kernel
theorem dX12_lay_7 : decode cX12_lay 7 = .ok (.aload_n 0, 1) := by decide +kernel
theorem dX12_lay_8 : decode cX12_lay 8 = .ok (.getfield 325, 3) := by decide +kernel
theorem dX12_lay_11 : decode cX12_lay 11 = .ok (.imul, 1) := by decide +kernel
theorem dX12_lay_12 : decode cX12_lay 12 = .ok (.aload_n 0, 1) := by decide +kernel
theorem dX12_lay_13 : decode cX12_lay 13 = .ok (.getfield 328, 3) := by decide +kernel
theorem dX12_lay_16 : decode cX12_lay 16 = .ok (.iadd, 1) := by decide +kernel
theorem dX12_lay_17 : decode cX12_lay 17 = .ok (.iload_n 1, 1) := by decide +kernel
theorem dX12_lay_18 : decode cX12_lay 18 = .ok (.iastore, 1) := by decide +kernel
theorem dX12_lay_19 : decode cX12_lay 19 = .ok (.aload_n 0, 1) := by decide +kernel
theorem dX12_lay_20 : decode cX12_lay 20 = .ok (.getfield 121, 3) := by decide +kernel
theorem dX12_lay_23 : decode cX12_lay 23 = .ok (.sipush 170, 3) := by decide +kernel
theorem dX12_lay_26 : decode cX12_lay 26 = .ok (.aload_n 0, 1) := by decide +kernel
theorem dX12_lay_27 : decode cX12_lay 27 = .ok (.getfield 325, 3) := by decide +kernel
theorem dX12_lay_30 : decode cX12_lay 30 = .ok (.imul, 1) := by decide +kernel
theorem dX12_lay_31 : decode cX12_lay 31 = .ok (.aload_n 0, 1) := by decide +kernel
theorem dX12_lay_32 : decode cX12_lay 32 = .ok (.getfield 328, 3) := by decide +kernel
theorem dX12_lay_35 : decode cX12_lay 35 = .ok (.iadd, 1) := by decide +kernel
theorem dX12_lay_36 : decode cX12_lay 36 = .ok (.iload_n 2, 1) := by decide +kernel
theorem dX12_lay_37 : decode cX12_lay 37 = .ok (.iastore, 1) := by decide +kernel
theorem dX12_lay_38 : decode cX12_lay 38 = .ok (.aload_n 0, 1) := by decide +kernel
theorem dX12_lay_39 : decode cX12_lay 39 = .ok (.dup, 1) := by decide +kernel
theorem dX12_lay_40 : decode cX12_lay 40 = .ok (.getfield 328, 3) := by decide +kernel
theorem dX12_lay_43 : decode cX12_lay 43 = .ok (.iconst 1, 1) := by decide +kernel
theorem dX12_lay_44 : decode cX12_lay 44 = .ok (.iadd, 1) := by decide +kernel
theorem dX12_lay_45 : decode cX12_lay 45 = .ok (.putfield 328, 3) := by decide +kernel
theorem dX12_lay_48 : decode cX12_lay 48 = .ok (.return_, 1) := by decide +kernel
theorem dX12_opens_0 : decode cX12_opens 0 = .ok (.aload_n 0, 1) := by decide +kernel
theorem dX12_opens_1 : decode cX12_opens 1 = .ok (.getfield 331, 3) := by decide +kernel
theorem dX12_opens_4 : decode cX12_opens 4 = .ok (.bipush 8, 2) := by decide +kernel
theorem dX12_opens_6 : decode cX12_opens 6 = .ok (.if_icmp .ne 9, 3) := by decide +kernel
theorem dX12_opens_9 : decode cX12_opens 9 = .ok (.aload_n 0, 1) := by decide +kernel
theorem dX12_opens_10 : decode cX12_opens 10 = .ok (.invokevirtual 334, 3) := by decide +kernel
theorem dX12_opens_13 : decode cX12_opens 13 = .ok (.iconst 0, 1) := by decide +kernel
theorem dX12_opens_14 : decode cX12_opens 14 = .ok (.ireturn, 1) := by decide +kernel
theorem dX12_opens_15 : decode cX12_opens 15 = .ok (.aload_n 0, 1) := by decide +kernel
theorem dX12_opens_16 : decode cX12_opens 16 = .ok (.dup, 1) := by decide +kernel
theorem dX12_opens_17 : decode cX12_opens 17 = .ok (.getfield 331, 3) := by decide +kernel
theorem dX12_opens_20 : decode cX12_opens 20 = .ok (.iconst 1, 1) := by decide +kernel
theorem dX12_opens_21 : decode cX12_opens 21 = .ok (.iadd, 1) := by decide +kernel
theorem dX12_opens_22 : decode cX12_opens 22 = .ok (.putfield 331, 3) := by decide +kernel
theorem dX12_opens_25 : decode cX12_opens 25 = .ok (.aload_n 0, 1) := by decide +kernel
theorem dX12_opens_26 : decode cX12_opens 26 = .ok (.dup, 1) := by decide +kernel
theorem dX12_opens_27 : decode cX12_opens 27 = .ok (.getfield 319, 3) := by decide +kernel
theorem dX12_opens_30 : decode cX12_opens 30 = .ok (.iconst 1, 1) := by decide +kernel
theorem dX12_opens_31 : decode cX12_opens 31 = .ok (.iadd, 1) := by decide +kernel
theorem dX12_opens_32 : decode cX12_opens 32 = .ok (.putfield 319, 3) := by decide +kernel
theorem dX12_opens_35 : decode cX12_opens 35 = .ok (.iconst 1, 1) := by decide +kernel
theorem dX12_opens_36 : decode cX12_opens 36 = .ok (.ireturn, 1) := by decide +kernel
theorem dX12_nameOf_0 : decode cX12_nameOf 0 = .ok (.iload_n 0, 1) := by decide +kernel
theorem dX12_nameOf_1 : decode cX12_nameOf 1 = .ok (.tableswitch 101 100 116 #[85, 101, 95, 101, 83, 91, 101, 89, 101, 101, 93, 101, 101, 101, 101, 87, 98], 83) := by decide +kernel
theorem dX12_nameOf_84 : decode cX12_nameOf 84 = .ok (.iconst 0, 1) := by decide +kernel
theorem dX12_nameOf_85 : decode cX12_nameOf 85 = .ok (.ireturn, 1) := by decide +kernel
theorem dX12_nameOf_86 : decode cX12_nameOf 86 = .ok (.iconst 1, 1) := by decide +kernel
theorem dX12_nameOf_87 : decode cX12_nameOf 87 = .ok (.ireturn, 1) := by decide +kernel
theorem dX12_nameOf_88 : decode cX12_nameOf 88 = .ok (.iconst 2, 1) := by decide +kernel
theorem dX12_nameOf_89 : decode cX12_nameOf 89 = .ok (.ireturn, 1) := by decide +kernel
theorem dX12_nameOf_90 : decode cX12_nameOf 90 = .ok (.iconst 3, 1) := by decide +kernel
theorem dX12_nameOf_91 : decode cX12_nameOf 91 = .ok (.ireturn, 1) := by decide +kernel
theorem dX12_nameOf_92 : decode cX12_nameOf 92 = .ok (.iconst 4, 1) := by decide +kernel
theorem dX12_nameOf_93 : decode cX12_nameOf 93 = .ok (.ireturn, 1) := by decide +kernel
theorem dX12_nameOf_94 : decode cX12_nameOf 94 = .ok (.iconst 5, 1) := by decide +kernel
theorem dX12_nameOf_95 : decode cX12_nameOf 95 = .ok (.ireturn, 1) := by decide +kernel
theorem dX12_nameOf_96 : decode cX12_nameOf 96 = .ok (.bipush 6, 2) := by decide +kernel
theorem dX12_nameOf_98 : decode cX12_nameOf 98 = .ok (.ireturn, 1) := by decide +kernel
theorem dX12_nameOf_99 : decode cX12_nameOf 99 = .ok (.bipush 7, 2) := by decide +kernel
theorem dX12_nameOf_101 : decode cX12_nameOf 101 = .ok (.ireturn, 1) := by decide +kernel
theorem dX12_nameOf_102 : decode cX12_nameOf 102 = .ok (.iconst (-1), 1) := by decide +kernel
theorem dX12_nameOf_103 : decode cX12_nameOf 103 = .ok (.ireturn, 1) := by decide +kernel
theorem dX12_operand_0 : decode cX12_operand 0 = .ok (.aload_n 0, 1) := by decide +kernel
theorem dX12_operand_1 : decode cX12_operand 1 = .ok (.invokevirtual 337, 3) := by decide +kernel
theorem dX12_operand_4 : decode cX12_operand 4 = .ok (.istore_n 1, 1) := by decide +kernel
theorem dX12_operand_5 : decode cX12_operand 5 = .ok (.iload_n 1, 1) := by decide +kernel
theorem dX12_operand_6 : decode cX12_operand 6 = .ok (.invokestatic 341, 3) := by decide +kernel
theorem dX12_operand_9 : decode cX12_operand 9 = .ok (.ifCond .lt 23, 3) := by decide +kernel
theorem dX12_operand_12 : decode cX12_operand 12 = .ok (.aload_n 0, 1) := by decide +kernel
theorem dX12_operand_13 : decode cX12_operand 13 = .ok (.iconst 2, 1) := by decide +kernel
theorem dX12_operand_14 : decode cX12_operand 14 = .ok (.iload_n 1, 1) := by decide +kernel
theorem dX12_operand_15 : decode cX12_operand 15 = .ok (.invokestatic 341, 3) := by decide +kernel
theorem dX12_operand_18 : decode cX12_operand 18 = .ok (.invokevirtual 344, 3) := by decide +kernel
theorem dX12_operand_21 : decode cX12_operand 21 = .ok (.aload_n 0, 1) := by decide +kernel
theorem dX12_operand_22 : decode cX12_operand 22 = .ok (.dup, 1) := by decide +kernel
theorem dX12_operand_23 : decode cX12_operand 23 = .ok (.getfield 319, 3) := by decide +kernel
theorem dX12_operand_26 : decode cX12_operand 26 = .ok (.iconst 1, 1) := by decide +kernel
theorem dX12_operand_27 : decode cX12_operand 27 = .ok (.iadd, 1) := by decide +kernel
theorem dX12_operand_28 : decode cX12_operand 28 = .ok (.putfield 319, 3) := by decide +kernel
theorem dX12_operand_31 : decode cX12_operand 31 = .ok (.return_, 1) := by decide +kernel
theorem dX12_operand_32 : decode cX12_operand 32 = .ok (.iload_n 1, 1) := by decide +kernel
theorem dX12_operand_33 : decode cX12_operand 33 = .ok (.bipush 33, 2) := by decide +kernel
theorem dX12_operand_35 : decode cX12_operand 35 = .ok (.if_icmp .eq 9, 3) := by decide +kernel
theorem dX12_operand_38 : decode cX12_operand 38 = .ok (.iload_n 1, 1) := by decide +kernel
theorem dX12_operand_39 : decode cX12_operand 39 = .ok (.bipush 45, 2) := by decide +kernel
theorem dX12_operand_41 : decode cX12_operand 41 = .ok (.if_icmp .ne 42, 3) := by decide +kernel
theorem dX12_operand_44 : decode cX12_operand 44 = .ok (.aload_n 0, 1) := by decide +kernel
theorem dX12_operand_45 : decode cX12_operand 45 = .ok (.invokevirtual 348, 3) := by decide +kernel
theorem dX12_operand_48 : decode cX12_operand 48 = .ok (.ifCond .ne 4, 3) := by decide +kernel
theorem dX12_operand_51 : decode cX12_operand 51 = .ok (.return_, 1) := by decide +kernel
theorem dX12_operand_52 : decode cX12_operand 52 = .ok (.aload_n 0, 1) := by decide +kernel
theorem dX12_operand_53 : decode cX12_operand 53 = .ok (.invokevirtual 352, 3) := by decide +kernel
theorem dX12_operand_56 : decode cX12_operand 56 = .ok (.aload_n 0, 1) := by decide +kernel
theorem dX12_operand_57 : decode cX12_operand 57 = .ok (.dup, 1) := by decide +kernel
theorem dX12_operand_58 : decode cX12_operand 58 = .ok (.getfield 331, 3) := by decide +kernel
theorem dX12_operand_61 : decode cX12_operand 61 = .ok (.iconst 1, 1) := by decide +kernel
theorem dX12_operand_62 : decode cX12_operand 62 = .ok (.isub, 1) := by decide +kernel
theorem dX12_operand_63 : decode cX12_operand 63 = .ok (.putfield 331, 3) := by decide +kernel
theorem dX12_operand_66 : decode cX12_operand 66 = .ok (.aload_n 0, 1) := by decide +kernel
theorem dX12_operand_67 : decode cX12_operand 67 = .ok (.iload_n 1, 1) := by decide +kernel
theorem dX12_operand_68 : decode cX12_operand 68 = .ok (.bipush 33, 2) := by decide +kernel
theorem dX12_operand_70 : decode cX12_operand 70 = .ok (.if_icmp .ne 7, 3) := by decide +kernel
theorem dX12_operand_73 : decode cX12_operand 73 = .ok (.iconst 3, 1) := by decide +kernel
theorem dX12_operand_74 : decode cX12_operand 74 = .ok (.goto 4, 3) := by decide +kernel
theorem dX12_operand_77 : decode cX12_operand 77 = .ok (.iconst 4, 1) := by decide +kernel
theorem dX12_operand_78 : decode cX12_operand 78 = .ok (.iconst 0, 1) := by decide +kernel
theorem dX12_operand_79 : decode cX12_operand 79 = .ok (.invokevirtual 344, 3) := by decide +kernel
theorem dX12_operand_82 : decode cX12_operand 82 = .ok (.return_, 1) := by decide +kernel
theorem dX12_operand_83 : decode cX12_operand 83 = .ok (.iload_n 1, 1) := by decide +kernel
theorem dX12_operand_84 : decode cX12_operand 84 = .ok (.bipush 40, 2) := by decide +kernel
theorem dX12_operand_86 : decode cX12_operand 86 = .ok (.if_icmp .ne 58, 3) := by decide +kernel
theorem dX12_operand_89 : decode cX12_operand 89 = .ok (.aload_n 0, 1) := by decide +kernel
theorem dX12_operand_90 : decode cX12_operand 90 = .ok (.invokevirtual 348, 3) := by decide +kernel
theorem dX12_operand_93 : decode cX12_operand 93 = .ok (.ifCond .ne 4, 3) := by decide +kernel
theorem dX12_operand_96 : decode cX12_operand 96 = .ok (.return_, 1) := by decide +kernel
theorem dX12_operand_97 : decode cX12_operand 97 = .ok (.aload_n 0, 1) := by decide +kernel
theorem dX12_operand_98 : decode cX12_operand 98 = .ok (.invokevirtual 355, 3) := by decide +kernel
theorem dX12_operand_101 : decode cX12_operand 101 = .ok (.aload_n 0, 1) := by decide +kernel
theorem dX12_operand_102 : decode cX12_operand 102 = .ok (.getfield 322, 3) := by decide +kernel
theorem dX12_operand_105 : decode cX12_operand 105 = .ok (.ifCond .lt 4, 3) := by decide +kernel
theorem dX12_operand_108 : decode cX12_operand 108 = .ok (.return_, 1) := by decide +kernel
theorem dX12_operand_109 : decode cX12_operand 109 = .ok (.aload_n 0, 1) := by decide +kernel
theorem dX12_operand_110 : decode cX12_operand 110 = .ok (.invokevirtual 337, 3) := by decide +kernel
theorem dX12_operand_113 : decode cX12_operand 113 = .ok (.bipush 41, 2) := by decide +kernel
theorem dX12_operand_115 : decode cX12_operand 115 = .ok (.if_icmp .eq 8, 3) := by decide +kernel
theorem dX12_operand_118 : decode cX12_operand 118 = .ok (.aload_n 0, 1) := by decide +kernel
theorem dX12_operand_119 : decode cX12_operand 119 = .ok (.invokevirtual 334, 3) := by decide +kernel
theorem dX12_operand_122 : decode cX12_operand 122 = .ok (.return_, 1) := by decide +kernel
theorem dX12_operand_123 : decode cX12_operand 123 = .ok (.aload_n 0, 1) := by decide +kernel
theorem dX12_operand_124 : decode cX12_operand 124 = .ok (.dup, 1) := by decide +kernel
theorem dX12_operand_125 : decode cX12_operand 125 = .ok (.getfield 331, 3) := by decide +kernel
theorem dX12_operand_128 : decode cX12_operand 128 = .ok (.iconst 1, 1) := by decide +kernel
theorem dX12_operand_129 : decode cX12_operand 129 = .ok (.isub, 1) := by decide +kernel
theorem dX12_operand_130 : decode cX12_operand 130 = .ok (.putfield 331, 3) := by decide +kernel
theorem dX12_operand_133 : decode cX12_operand 133 = .ok (.aload_n 0, 1) := by decide +kernel
theorem dX12_operand_134 : decode cX12_operand 134 = .ok (.dup, 1) := by decide +kernel
theorem dX12_operand_135 : decode cX12_operand 135 = .ok (.getfield 319, 3) := by decide +kernel
theorem dX12_operand_138 : decode cX12_operand 138 = .ok (.iconst 1, 1) := by decide +kernel
theorem dX12_operand_139 : decode cX12_operand 139 = .ok (.iadd, 1) := by decide +kernel
theorem dX12_operand_140 : decode cX12_operand 140 = .ok (.putfield 319, 3) := by decide +kernel
theorem dX12_operand_143 : decode cX12_operand 143 = .ok (.return_, 1) := by decide +kernel
theorem dX12_operand_144 : decode cX12_operand 144 = .ok (.iconst 0, 1) := by decide +kernel
theorem dX12_operand_145 : decode cX12_operand 145 = .ok (.istore_n 2, 1) := by decide +kernel
theorem dX12_operand_146 : decode cX12_operand 146 = .ok (.iconst 0, 1) := by decide +kernel
theorem dX12_operand_147 : decode cX12_operand 147 = .ok (.istore_n 3, 1) := by decide +kernel
theorem dX12_operand_148 : decode cX12_operand 148 = .ok (.iload_n 2, 1) := by decide +kernel
theorem dX12_operand_149 : decode cX12_operand 149 = .ok (.iconst 5, 1) := by decide +kernel
theorem dX12_operand_150 : decode cX12_operand 150 = .ok (.if_icmp .ge 46, 3) := by decide +kernel
theorem dX12_operand_153 : decode cX12_operand 153 = .ok (.aload_n 0, 1) := by decide +kernel
theorem dX12_operand_154 : decode cX12_operand 154 = .ok (.invokevirtual 337, 3) := by decide +kernel
theorem dX12_operand_157 : decode cX12_operand 157 = .ok (.bipush 48, 2) := by decide +kernel
theorem dX12_operand_159 : decode cX12_operand 159 = .ok (.bipush 57, 2) := by decide +kernel
theorem dX12_operand_161 : decode cX12_operand 161 = .ok (.invokestatic 230, 3) := by decide +kernel
theorem dX12_operand_164 : decode cX12_operand 164 = .ok (.ifCond .eq 32, 3) := by decide +kernel
theorem dX12_operand_167 : decode cX12_operand 167 = .ok (.bipush 10, 2) := by decide +kernel
theorem dX12_operand_169 : decode cX12_operand 169 = .ok (.iload_n 3, 1) := by decide +kernel
theorem dX12_operand_170 : decode cX12_operand 170 = .ok (.imul, 1) := by decide +kernel
theorem dX12_operand_171 : decode cX12_operand 171 = .ok (.aload_n 0, 1) := by decide +kernel
theorem dX12_operand_172 : decode cX12_operand 172 = .ok (.invokevirtual 337, 3) := by decide +kernel
theorem dX12_operand_175 : decode cX12_operand 175 = .ok (.iadd, 1) := by decide +kernel
theorem dX12_operand_176 : decode cX12_operand 176 = .ok (.bipush 48, 2) := by decide +kernel
theorem dX12_operand_178 : decode cX12_operand 178 = .ok (.isub, 1) := by decide +kernel
theorem dX12_operand_179 : decode cX12_operand 179 = .ok (.istore_n 3, 1) := by decide +kernel
theorem dX12_operand_180 : decode cX12_operand 180 = .ok (.iinc 2 1, 3) := by decide +kernel
theorem dX12_operand_183 : decode cX12_operand 183 = .ok (.aload_n 0, 1) := by decide +kernel
theorem dX12_operand_184 : decode cX12_operand 184 = .ok (.dup, 1) := by decide +kernel
theorem dX12_operand_185 : decode cX12_operand 185 = .ok (.getfield 319, 3) := by decide +kernel
theorem dX12_operand_188 : decode cX12_operand 188 = .ok (.iconst 1, 1) := by decide +kernel
theorem dX12_operand_189 : decode cX12_operand 189 = .ok (.iadd, 1) := by decide +kernel
theorem dX12_operand_190 : decode cX12_operand 190 = .ok (.putfield 319, 3) := by decide +kernel
theorem dX12_operand_193 : decode cX12_operand 193 = .ok (.goto (-45), 3) := by decide +kernel
theorem dX12_operand_196 : decode cX12_operand 196 = .ok (.iload_n 2, 1) := by decide +kernel
theorem dX12_operand_197 : decode cX12_operand 197 = .ok (.ifCond .eq 17, 3) := by decide +kernel
theorem dX12_operand_200 : decode cX12_operand 200 = .ok (.aload_n 0, 1) := by decide +kernel
theorem dX12_operand_201 : decode cX12_operand 201 = .ok (.invokevirtual 337, 3) := by decide +kernel
theorem dX12_operand_204 : decode cX12_operand 204 = .ok (.bipush 48, 2) := by decide +kernel
theorem dX12_operand_206 : decode cX12_operand 206 = .ok (.bipush 57, 2) := by decide +kernel
theorem dX12_operand_208 : decode cX12_operand 208 = .ok (.invokestatic 230, 3) := by decide +kernel
theorem dX12_operand_211 : decode cX12_operand 211 = .ok (.ifCond .eq 10, 3) := by decide +kernel
theorem dX12_operand_214 : decode cX12_operand 214 = .ok (.aload_n 0, 1) := by decide +kernel
theorem dX12_operand_215 : decode cX12_operand 215 = .ok (.invokevirtual 334, 3) := by decide +kernel
theorem dX12_operand_218 : decode cX12_operand 218 = .ok (.goto 9, 3) := by decide +kernel
theorem dX12_operand_221 : decode cX12_operand 221 = .ok (.aload_n 0, 1) := by decide +kernel
theorem dX12_operand_222 : decode cX12_operand 222 = .ok (.iconst 1, 1) := by decide +kernel
theorem dX12_operand_223 : decode cX12_operand 223 = .ok (.iload_n 3, 1) := by decide +kernel
theorem dX12_operand_224 : decode cX12_operand 224 = .ok (.invokevirtual 344, 3) := by decide +kernel
theorem dX12_operand_227 : decode cX12_operand 227 = .ok (.return_, 1) := by decide +kernel
theorem dX12_product_0 : decode cX12_product 0 = .ok (.aload_n 0, 1) := by decide +kernel
theorem dX12_product_1 : decode cX12_product 1 = .ok (.invokevirtual 352, 3) := by decide +kernel
theorem dX12_product_4 : decode cX12_product 4 = .ok (.aload_n 0, 1) := by decide +kernel
theorem dX12_product_5 : decode cX12_product 5 = .ok (.getfield 322, 3) := by decide +kernel
theorem dX12_product_8 : decode cX12_product 8 = .ok (.ifCond .ge 58, 3) := by decide +kernel
theorem dX12_product_11 : decode cX12_product 11 = .ok (.aload_n 0, 1) := by decide +kernel
theorem dX12_product_12 : decode cX12_product 12 = .ok (.invokevirtual 337, 3) := by decide +kernel
theorem dX12_product_15 : decode cX12_product 15 = .ok (.bipush 42, 2) := by decide +kernel
theorem dX12_product_17 : decode cX12_product 17 = .ok (.if_icmp .eq 21, 3) := by decide +kernel
theorem dX12_product_20 : decode cX12_product 20 = .ok (.aload_n 0, 1) := by decide +kernel
theorem dX12_product_21 : decode cX12_product 21 = .ok (.invokevirtual 337, 3) := by decide +kernel
theorem dX12_product_24 : decode cX12_product 24 = .ok (.bipush 47, 2) := by decide +kernel
theorem dX12_product_26 : decode cX12_product 26 = .ok (.if_icmp .eq 12, 3) := by decide +kernel
theorem dX12_product_29 : decode cX12_product 29 = .ok (.aload_n 0, 1) := by decide +kernel
theorem dX12_product_30 : decode cX12_product 30 = .ok (.invokevirtual 337, 3) := by decide +kernel
theorem dX12_product_33 : decode cX12_product 33 = .ok (.bipush 37, 2) := by decide +kernel
theorem dX12_product_35 : decode cX12_product 35 = .ok (.if_icmp .ne 31, 3) := by decide +kernel
theorem dX12_product_38 : decode cX12_product 38 = .ok (.aload_n 0, 1) := by decide +kernel
theorem dX12_product_39 : decode cX12_product 39 = .ok (.invokevirtual 337, 3) := by decide +kernel
theorem dX12_product_42 : decode cX12_product 42 = .ok (.istore_n 1, 1) := by decide +kernel
theorem dX12_product_43 : decode cX12_product 43 = .ok (.aload_n 0, 1) := by decide +kernel
theorem dX12_product_44 : decode cX12_product 44 = .ok (.dup, 1) := by decide +kernel
theorem dX12_product_45 : decode cX12_product 45 = .ok (.getfield 319, 3) := by decide +kernel
theorem dX12_product_48 : decode cX12_product 48 = .ok (.iconst 1, 1) := by decide +kernel
theorem dX12_product_49 : decode cX12_product 49 = .ok (.iadd, 1) := by decide +kernel
theorem dX12_product_50 : decode cX12_product 50 = .ok (.putfield 319, 3) := by decide +kernel
theorem dX12_product_53 : decode cX12_product 53 = .ok (.aload_n 0, 1) := by decide +kernel
theorem dX12_product_54 : decode cX12_product 54 = .ok (.invokevirtual 352, 3) := by decide +kernel
theorem dX12_product_57 : decode cX12_product 57 = .ok (.aload_n 0, 1) := by decide +kernel
theorem dX12_product_58 : decode cX12_product 58 = .ok (.iload_n 1, 1) := by decide +kernel
theorem dX12_product_59 : decode cX12_product 59 = .ok (.iconst 0, 1) := by decide +kernel
theorem dX12_product_60 : decode cX12_product 60 = .ok (.invokevirtual 344, 3) := by decide +kernel
theorem dX12_product_63 : decode cX12_product 63 = .ok (.goto (-59), 3) := by decide +kernel
theorem dX12_product_66 : decode cX12_product 66 = .ok (.return_, 1) := by decide +kernel
theorem dX12_sum_0 : decode cX12_sum 0 = .ok (.aload_n 0, 1) := by decide +kernel
theorem dX12_sum_1 : decode cX12_sum 1 = .ok (.invokevirtual 358, 3) := by decide +kernel
theorem dX12_sum_4 : decode cX12_sum 4 = .ok (.aload_n 0, 1) := by decide +kernel
theorem dX12_sum_5 : decode cX12_sum 5 = .ok (.getfield 322, 3) := by decide +kernel
theorem dX12_sum_8 : decode cX12_sum 8 = .ok (.ifCond .ge 49, 3) := by decide +kernel
theorem dX12_sum_11 : decode cX12_sum 11 = .ok (.aload_n 0, 1) := by decide +kernel
theorem dX12_sum_12 : decode cX12_sum 12 = .ok (.invokevirtual 337, 3) := by decide +kernel
theorem dX12_sum_15 : decode cX12_sum 15 = .ok (.bipush 43, 2) := by decide +kernel
theorem dX12_sum_17 : decode cX12_sum 17 = .ok (.if_icmp .eq 12, 3) := by decide +kernel
theorem dX12_sum_20 : decode cX12_sum 20 = .ok (.aload_n 0, 1) := by decide +kernel
theorem dX12_sum_21 : decode cX12_sum 21 = .ok (.invokevirtual 337, 3) := by decide +kernel
theorem dX12_sum_24 : decode cX12_sum 24 = .ok (.bipush 45, 2) := by decide +kernel
theorem dX12_sum_26 : decode cX12_sum 26 = .ok (.if_icmp .ne 31, 3) := by decide +kernel
theorem dX12_sum_29 : decode cX12_sum 29 = .ok (.aload_n 0, 1) := by decide +kernel
theorem dX12_sum_30 : decode cX12_sum 30 = .ok (.invokevirtual 337, 3) := by decide +kernel
theorem dX12_sum_33 : decode cX12_sum 33 = .ok (.istore_n 1, 1) := by decide +kernel
theorem dX12_sum_34 : decode cX12_sum 34 = .ok (.aload_n 0, 1) := by decide +kernel
theorem dX12_sum_35 : decode cX12_sum 35 = .ok (.dup, 1) := by decide +kernel
theorem dX12_sum_36 : decode cX12_sum 36 = .ok (.getfield 319, 3) := by decide +kernel
theorem dX12_sum_39 : decode cX12_sum 39 = .ok (.iconst 1, 1) := by decide +kernel
theorem dX12_sum_40 : decode cX12_sum 40 = .ok (.iadd, 1) := by decide +kernel
theorem dX12_sum_41 : decode cX12_sum 41 = .ok (.putfield 319, 3) := by decide +kernel
theorem dX12_sum_44 : decode cX12_sum 44 = .ok (.aload_n 0, 1) := by decide +kernel
theorem dX12_sum_45 : decode cX12_sum 45 = .ok (.invokevirtual 358, 3) := by decide +kernel
theorem dX12_sum_48 : decode cX12_sum 48 = .ok (.aload_n 0, 1) := by decide +kernel
theorem dX12_sum_49 : decode cX12_sum 49 = .ok (.iload_n 1, 1) := by decide +kernel
theorem dX12_sum_50 : decode cX12_sum 50 = .ok (.iconst 0, 1) := by decide +kernel
theorem dX12_sum_51 : decode cX12_sum 51 = .ok (.invokevirtual 344, 3) := by decide +kernel
theorem dX12_sum_54 : decode cX12_sum 54 = .ok (.goto (-50), 3) := by decide +kernel
theorem dX12_sum_57 : decode cX12_sum 57 = .ok (.return_, 1) := by decide +kernel
theorem dX12_compared_0 : decode cX12_compared 0 = .ok (.aload_n 0, 1) := by decide +kernel
theorem dX12_compared_1 : decode cX12_compared 1 = .ok (.invokevirtual 361, 3) := by decide +kernel
theorem dX12_compared_4 : decode cX12_compared 4 = .ok (.aload_n 0, 1) := by decide +kernel
theorem dX12_compared_5 : decode cX12_compared 5 = .ok (.invokevirtual 337, 3) := by decide +kernel
theorem dX12_compared_8 : decode cX12_compared 8 = .ok (.istore_n 1, 1) := by decide +kernel
theorem dX12_compared_9 : decode cX12_compared 9 = .ok (.aload_n 0, 1) := by decide +kernel
theorem dX12_compared_10 : decode cX12_compared 10 = .ok (.getfield 322, 3) := by decide +kernel
theorem dX12_compared_13 : decode cX12_compared 13 = .ok (.ifCond .ge 21, 3) := by decide +kernel
theorem dX12_compared_16 : decode cX12_compared 16 = .ok (.iload_n 1, 1) := by decide +kernel
theorem dX12_compared_17 : decode cX12_compared 17 = .ok (.bipush 60, 2) := by decide +kernel
theorem dX12_compared_19 : decode cX12_compared 19 = .ok (.if_icmp .eq 16, 3) := by decide +kernel
theorem dX12_compared_22 : decode cX12_compared 22 = .ok (.iload_n 1, 1) := by decide +kernel
theorem dX12_compared_23 : decode cX12_compared 23 = .ok (.bipush 61, 2) := by decide +kernel
theorem dX12_compared_25 : decode cX12_compared 25 = .ok (.if_icmp .eq 10, 3) := by decide +kernel
theorem dX12_compared_28 : decode cX12_compared 28 = .ok (.iload_n 1, 1) := by decide +kernel
theorem dX12_compared_29 : decode cX12_compared 29 = .ok (.bipush 62, 2) := by decide +kernel
theorem dX12_compared_31 : decode cX12_compared 31 = .ok (.if_icmp .eq 4, 3) := by decide +kernel
theorem dX12_compared_34 : decode cX12_compared 34 = .ok (.return_, 1) := by decide +kernel
theorem dX12_compared_35 : decode cX12_compared 35 = .ok (.aload_n 0, 1) := by decide +kernel
theorem dX12_compared_36 : decode cX12_compared 36 = .ok (.dup, 1) := by decide +kernel
theorem dX12_compared_37 : decode cX12_compared 37 = .ok (.getfield 319, 3) := by decide +kernel
theorem dX12_compared_40 : decode cX12_compared 40 = .ok (.iconst 1, 1) := by decide +kernel
theorem dX12_compared_41 : decode cX12_compared 41 = .ok (.iadd, 1) := by decide +kernel
theorem dX12_compared_42 : decode cX12_compared 42 = .ok (.putfield 319, 3) := by decide +kernel
theorem dX12_compared_45 : decode cX12_compared 45 = .ok (.aload_n 0, 1) := by decide +kernel
theorem dX12_compared_46 : decode cX12_compared 46 = .ok (.invokevirtual 361, 3) := by decide +kernel
theorem dX12_compared_49 : decode cX12_compared 49 = .ok (.aload_n 0, 1) := by decide +kernel
theorem dX12_compared_50 : decode cX12_compared 50 = .ok (.iload_n 1, 1) := by decide +kernel
theorem dX12_compared_51 : decode cX12_compared 51 = .ok (.iconst 0, 1) := by decide +kernel
theorem dX12_compared_52 : decode cX12_compared 52 = .ok (.invokevirtual 344, 3) := by decide +kernel
theorem dX12_compared_55 : decode cX12_compared 55 = .ok (.return_, 1) := by decide +kernel
theorem dX12_all_0 : decode cX12_all 0 = .ok (.aload_n 0, 1) := by decide +kernel
theorem dX12_all_1 : decode cX12_all 1 = .ok (.invokevirtual 364, 3) := by decide +kernel
theorem dX12_all_4 : decode cX12_all 4 = .ok (.aload_n 0, 1) := by decide +kernel
theorem dX12_all_5 : decode cX12_all 5 = .ok (.getfield 322, 3) := by decide +kernel
theorem dX12_all_8 : decode cX12_all 8 = .ok (.ifCond .ge 36, 3) := by decide +kernel
theorem dX12_all_11 : decode cX12_all 11 = .ok (.aload_n 0, 1) := by decide +kernel
theorem dX12_all_12 : decode cX12_all 12 = .ok (.invokevirtual 337, 3) := by decide +kernel
theorem dX12_all_15 : decode cX12_all 15 = .ok (.bipush 38, 2) := by decide +kernel
theorem dX12_all_17 : decode cX12_all 17 = .ok (.if_icmp .ne 27, 3) := by decide +kernel
theorem dX12_all_20 : decode cX12_all 20 = .ok (.aload_n 0, 1) := by decide +kernel
theorem dX12_all_21 : decode cX12_all 21 = .ok (.dup, 1) := by decide +kernel
theorem dX12_all_22 : decode cX12_all 22 = .ok (.getfield 319, 3) := by decide +kernel
theorem dX12_all_25 : decode cX12_all 25 = .ok (.iconst 1, 1) := by decide +kernel
theorem dX12_all_26 : decode cX12_all 26 = .ok (.iadd, 1) := by decide +kernel
theorem dX12_all_27 : decode cX12_all 27 = .ok (.putfield 319, 3) := by decide +kernel
theorem dX12_all_30 : decode cX12_all 30 = .ok (.aload_n 0, 1) := by decide +kernel
theorem dX12_all_31 : decode cX12_all 31 = .ok (.invokevirtual 364, 3) := by decide +kernel
theorem dX12_all_34 : decode cX12_all 34 = .ok (.aload_n 0, 1) := by decide +kernel
theorem dX12_all_35 : decode cX12_all 35 = .ok (.bipush 38, 2) := by decide +kernel
theorem dX12_all_37 : decode cX12_all 37 = .ok (.iconst 0, 1) := by decide +kernel
theorem dX12_all_38 : decode cX12_all 38 = .ok (.invokevirtual 344, 3) := by decide +kernel
theorem dX12_all_41 : decode cX12_all 41 = .ok (.goto (-37), 3) := by decide +kernel
theorem dX12_all_44 : decode cX12_all 44 = .ok (.return_, 1) := by decide +kernel
theorem dX12_either_0 : decode cX12_either 0 = .ok (.aload_n 0, 1) := by decide +kernel
theorem dX12_either_1 : decode cX12_either 1 = .ok (.invokevirtual 367, 3) := by decide +kernel
theorem dX12_either_4 : decode cX12_either 4 = .ok (.aload_n 0, 1) := by decide +kernel
theorem dX12_either_5 : decode cX12_either 5 = .ok (.getfield 322, 3) := by decide +kernel
theorem dX12_either_8 : decode cX12_either 8 = .ok (.ifCond .ge 36, 3) := by decide +kernel
theorem dX12_either_11 : decode cX12_either 11 = .ok (.aload_n 0, 1) := by decide +kernel
theorem dX12_either_12 : decode cX12_either 12 = .ok (.invokevirtual 337, 3) := by decide +kernel
theorem dX12_either_15 : decode cX12_either 15 = .ok (.bipush 124, 2) := by decide +kernel
theorem dX12_either_17 : decode cX12_either 17 = .ok (.if_icmp .ne 27, 3) := by decide +kernel
theorem dX12_either_20 : decode cX12_either 20 = .ok (.aload_n 0, 1) := by decide +kernel
theorem dX12_either_21 : decode cX12_either 21 = .ok (.dup, 1) := by decide +kernel
theorem dX12_either_22 : decode cX12_either 22 = .ok (.getfield 319, 3) := by decide +kernel
theorem dX12_either_25 : decode cX12_either 25 = .ok (.iconst 1, 1) := by decide +kernel
theorem dX12_either_26 : decode cX12_either 26 = .ok (.iadd, 1) := by decide +kernel
theorem dX12_either_27 : decode cX12_either 27 = .ok (.putfield 319, 3) := by decide +kernel
theorem dX12_either_30 : decode cX12_either 30 = .ok (.aload_n 0, 1) := by decide +kernel
theorem dX12_either_31 : decode cX12_either 31 = .ok (.invokevirtual 367, 3) := by decide +kernel
theorem dX12_either_34 : decode cX12_either 34 = .ok (.aload_n 0, 1) := by decide +kernel
theorem dX12_either_35 : decode cX12_either 35 = .ok (.bipush 124, 2) := by decide +kernel
theorem dX12_either_37 : decode cX12_either 37 = .ok (.iconst 0, 1) := by decide +kernel
theorem dX12_either_38 : decode cX12_either 38 = .ok (.invokevirtual 344, 3) := by decide +kernel
theorem dX12_either_41 : decode cX12_either 41 = .ok (.goto (-37), 3) := by decide +kernel
theorem dX12_either_44 : decode cX12_either 44 = .ok (.return_, 1) := by decide +kernel
theorem dX12_readLine_0 : decode cX12_readLine 0 = .ok (.bipush 90, 2) := by decide +kernel
theorem dX12_readLine_2 : decode cX12_readLine 2 = .ok (.aload_n 0, 1) := by decide +kernel
theorem dX12_readLine_3 : decode cX12_readLine 3 = .ok (.getfield 325, 3) := by decide +kernel
theorem dX12_readLine_6 : decode cX12_readLine 6 = .ok (.imul, 1) := by decide +kernel
theorem dX12_readLine_7 : decode cX12_readLine 7 = .ok (.aload_n 0, 1) := by decide +kernel
theorem dX12_readLine_8 : decode cX12_readLine 8 = .ok (.getfield 109, 3) := by decide +kernel
theorem dX12_readLine_11 : decode cX12_readLine 11 = .ok (.aload_n 0, 1) := by decide +kernel
theorem dX12_readLine_12 : decode cX12_readLine 12 = .ok (.getfield 325, 3) := by decide +kernel
theorem dX12_readLine_15 : decode cX12_readLine 15 = .ok (.iaload, 1) := by decide +kernel
theorem dX12_readLine_16 : decode cX12_readLine 16 = .ok (.iadd, 1) := by decide +kernel
theorem dX12_readLine_17 : decode cX12_readLine 17 = .ok (.istore_n 1, 1) := by decide +kernel
theorem dX12_readLine_18 : decode cX12_readLine 18 = .ok (.aload_n 0, 1) := by decide +kernel
theorem dX12_readLine_19 : decode cX12_readLine 19 = .ok (.getfield 328, 3) := by decide +kernel
theorem dX12_readLine_22 : decode cX12_readLine 22 = .ok (.istore_n 2, 1) := by decide +kernel
theorem dX12_readLine_23 : decode cX12_readLine 23 = .ok (.aload_n 0, 1) := by decide +kernel
theorem dX12_readLine_24 : decode cX12_readLine 24 = .ok (.invokevirtual 355, 3) := by decide +kernel
theorem dX12_readLine_27 : decode cX12_readLine 27 = .ok (.aload_n 0, 1) := by decide +kernel
theorem dX12_readLine_28 : decode cX12_readLine 28 = .ok (.getfield 112, 3) := by decide +kernel
theorem dX12_readLine_31 : decode cX12_readLine 31 = .ok (.iload_n 1, 1) := by decide +kernel
theorem dX12_readLine_32 : decode cX12_readLine 32 = .ok (.iload_n 2, 1) := by decide +kernel
theorem dX12_readLine_33 : decode cX12_readLine 33 = .ok (.iastore, 1) := by decide +kernel
theorem dX12_readLine_34 : decode cX12_readLine 34 = .ok (.aload_n 0, 1) := by decide +kernel
theorem dX12_readLine_35 : decode cX12_readLine 35 = .ok (.getfield 322, 3) := by decide +kernel
theorem dX12_readLine_38 : decode cX12_readLine 38 = .ok (.ifCond .ge 36, 3) := by decide +kernel
theorem dX12_readLine_41 : decode cX12_readLine 41 = .ok (.aload_n 0, 1) := by decide +kernel
theorem dX12_readLine_42 : decode cX12_readLine 42 = .ok (.invokevirtual 337, 3) := by decide +kernel
theorem dX12_readLine_45 : decode cX12_readLine 45 = .ok (.bipush 63, 2) := by decide +kernel
theorem dX12_readLine_47 : decode cX12_readLine 47 = .ok (.if_icmp .ne 27, 3) := by decide +kernel
theorem dX12_readLine_50 : decode cX12_readLine 50 = .ok (.aload_n 0, 1) := by decide +kernel
theorem dX12_readLine_51 : decode cX12_readLine 51 = .ok (.dup, 1) := by decide +kernel
theorem dX12_readLine_52 : decode cX12_readLine 52 = .ok (.getfield 319, 3) := by decide +kernel
theorem dX12_readLine_55 : decode cX12_readLine 55 = .ok (.iconst 1, 1) := by decide +kernel
theorem dX12_readLine_56 : decode cX12_readLine 56 = .ok (.iadd, 1) := by decide +kernel
theorem dX12_readLine_57 : decode cX12_readLine 57 = .ok (.putfield 319, 3) := by decide +kernel
theorem dX12_readLine_60 : decode cX12_readLine 60 = .ok (.aload_n 0, 1) := by decide +kernel
theorem dX12_readLine_61 : decode cX12_readLine 61 = .ok (.getfield 112, 3) := by decide +kernel
theorem dX12_readLine_64 : decode cX12_readLine 64 = .ok (.iload_n 1, 1) := by decide +kernel
theorem dX12_readLine_65 : decode cX12_readLine 65 = .ok (.aload_n 0, 1) := by decide +kernel
theorem dX12_readLine_66 : decode cX12_readLine 66 = .ok (.getfield 328, 3) := by decide +kernel
theorem dX12_readLine_69 : decode cX12_readLine 69 = .ok (.iastore, 1) := by decide +kernel
theorem dX12_readLine_70 : decode cX12_readLine 70 = .ok (.aload_n 0, 1) := by decide +kernel
theorem dX12_readLine_71 : decode cX12_readLine 71 = .ok (.invokevirtual 355, 3) := by decide +kernel
theorem dX12_readLine_74 : decode cX12_readLine 74 = .ok (.aload_n 0, 1) := by decide +kernel
theorem dX12_readLine_75 : decode cX12_readLine 75 = .ok (.getfield 115, 3) := by decide +kernel
theorem dX12_readLine_78 : decode cX12_readLine 78 = .ok (.iload_n 1, 1) := by decide +kernel
theorem dX12_readLine_79 : decode cX12_readLine 79 = .ok (.aload_n 0, 1) := by decide +kernel
theorem dX12_readLine_80 : decode cX12_readLine 80 = .ok (.getfield 328, 3) := by decide +kernel
theorem dX12_readLine_83 : decode cX12_readLine 83 = .ok (.iastore, 1) := by decide +kernel
theorem dX12_readLine_84 : decode cX12_readLine 84 = .ok (.aload_n 0, 1) := by decide +kernel
theorem dX12_readLine_85 : decode cX12_readLine 85 = .ok (.getfield 109, 3) := by decide +kernel
theorem dX12_readLine_88 : decode cX12_readLine 88 = .ok (.aload_n 0, 1) := by decide +kernel
theorem dX12_readLine_89 : decode cX12_readLine 89 = .ok (.getfield 325, 3) := by decide +kernel
theorem dX12_readLine_92 : decode cX12_readLine 92 = .ok (.dup2, 1) := by decide +kernel
theorem dX12_readLine_93 : decode cX12_readLine 93 = .ok (.iaload, 1) := by decide +kernel
theorem dX12_readLine_94 : decode cX12_readLine 94 = .ok (.iconst 1, 1) := by decide +kernel
theorem dX12_readLine_95 : decode cX12_readLine 95 = .ok (.iadd, 1) := by decide +kernel
theorem dX12_readLine_96 : decode cX12_readLine 96 = .ok (.iastore, 1) := by decide +kernel
theorem dX12_readLine_97 : decode cX12_readLine 97 = .ok (.return_, 1) := by decide +kernel
theorem dX12_isWhat_0 : decode cX12_isWhat 0 = .ok (.iload_n 0, 1) := by decide +kernel
theorem dX12_isWhat_1 : decode cX12_isWhat 1 = .ok (.iconst 0, 1) := by decide +kernel
theorem dX12_isWhat_2 : decode cX12_isWhat 2 = .ok (.bipush 12, 2) := by decide +kernel
theorem dX12_isWhat_4 : decode cX12_isWhat 4 = .ok (.invokestatic 230, 3) := by decide +kernel
theorem dX12_isWhat_7 : decode cX12_isWhat 7 = .ok (.ifCond .eq 15, 3) := by decide +kernel
theorem dX12_isWhat_10 : decode cX12_isWhat 10 = .ok (.iload_n 0, 1) := by decide +kernel
theorem dX12_isWhat_11 : decode cX12_isWhat 11 = .ok (.bipush 10, 2) := by decide +kernel
theorem dX12_isWhat_13 : decode cX12_isWhat 13 = .ok (.irem, 1) := by decide +kernel
theorem dX12_isWhat_14 : decode cX12_isWhat 14 = .ok (.iconst 2, 1) := by decide +kernel
theorem dX12_isWhat_15 : decode cX12_isWhat 15 = .ok (.if_icmp .gt 7, 3) := by decide +kernel
theorem dX12_isWhat_18 : decode cX12_isWhat 18 = .ok (.iconst 1, 1) := by decide +kernel
theorem dX12_isWhat_19 : decode cX12_isWhat 19 = .ok (.goto 4, 3) := by decide +kernel
theorem dX12_isWhat_22 : decode cX12_isWhat 22 = .ok (.iconst 0, 1) := by decide +kernel
theorem dX12_isWhat_23 : decode cX12_isWhat 23 = .ok (.ireturn, 1) := by decide +kernel
theorem dX12_text_0 : decode cX12_text 0 = .ok (.iload_n 1, 1) := by decide +kernel
theorem dX12_text_1 : decode cX12_text 1 = .ok (.invokestatic 370, 3) := by decide +kernel
theorem dX12_text_4 : decode cX12_text 4 = .ok (.ifCond .eq 17, 3) := by decide +kernel
theorem dX12_text_7 : decode cX12_text 7 = .ok (.iload_n 2, 1) := by decide +kernel
theorem dX12_text_8 : decode cX12_text 8 = .ok (.aload_n 0, 1) := by decide +kernel
theorem dX12_text_9 : decode cX12_text 9 = .ok (.getfield 281, 3) := by decide +kernel
theorem dX12_text_12 : decode cX12_text 12 = .ok (.sipush 1699, 3) := by decide +kernel
theorem dX12_text_15 : decode cX12_text 15 = .ok (.invokestatic 230, 3) := by decide +kernel
theorem dX12_text_18 : decode cX12_text 18 = .ok (.ifCond .ne 5, 3) := by decide +kernel
theorem dX12_text_21 : decode cX12_text 21 = .ok (.iconst (-1), 1) := by decide +kernel
theorem dX12_text_22 : decode cX12_text 22 = .ok (.ireturn, 1) := by decide +kernel
theorem dX12_text_23 : decode cX12_text 23 = .ok (.aload_n 0, 1) := by decide +kernel
theorem dX12_text_24 : decode cX12_text 24 = .ok (.getfield 373, 3) := by decide +kernel
theorem dX12_text_27 : decode cX12_text 27 = .ok (.bipush 16, 2) := by decide +kernel
theorem dX12_text_29 : decode cX12_text 29 = .ok (.if_icmp .ne 6, 3) := by decide +kernel
theorem dX12_text_32 : decode cX12_text 32 = .ok (.bipush (-3), 2) := by decide +kernel
theorem dX12_text_34 : decode cX12_text 34 = .ok (.ireturn, 1) := by decide +kernel
theorem dX12_text_35 : decode cX12_text 35 = .ok (.aload_n 0, 1) := by decide +kernel
theorem dX12_text_36 : decode cX12_text 36 = .ok (.aload_n 0, 1) := by decide +kernel
theorem dX12_text_37 : decode cX12_text 37 = .ok (.getfield 373, 3) := by decide +kernel
theorem dX12_text_40 : decode cX12_text 40 = .ok (.putfield 325, 3) := by decide +kernel
theorem dX12_text_43 : decode cX12_text 43 = .ok (.aload_n 0, 1) := by decide +kernel
theorem dX12_text_44 : decode cX12_text 44 = .ok (.getfield 109, 3) := by decide +kernel
theorem dX12_text_47 : decode cX12_text 47 = .ok (.aload_n 0, 1) := by decide +kernel
theorem dX12_text_48 : decode cX12_text 48 = .ok (.getfield 325, 3) := by decide +kernel
theorem dX12_text_51 : decode cX12_text 51 = .ok (.iconst 0, 1) := by decide +kernel
theorem dX12_text_52 : decode cX12_text 52 = .ok (.iastore, 1) := by decide +kernel
theorem dX12_text_53 : decode cX12_text 53 = .ok (.aload_n 0, 1) := by decide +kernel
theorem dX12_text_54 : decode cX12_text 54 = .ok (.iconst 0, 1) := by decide +kernel
theorem dX12_text_55 : decode cX12_text 55 = .ok (.putfield 328, 3) := by decide +kernel
theorem dX12_text_58 : decode cX12_text 58 = .ok (.aload_n 0, 1) := by decide +kernel
theorem dX12_text_59 : decode cX12_text 59 = .ok (.iconst 0, 1) := by decide +kernel
theorem dX12_text_60 : decode cX12_text 60 = .ok (.putfield 319, 3) := by decide +kernel
theorem dX12_text_63 : decode cX12_text 63 = .ok (.aload_n 0, 1) := by decide +kernel
theorem dX12_text_64 : decode cX12_text 64 = .ok (.iconst (-1), 1) := by decide +kernel
theorem dX12_text_65 : decode cX12_text 65 = .ok (.putfield 322, 3) := by decide +kernel
theorem dX12_text_68 : decode cX12_text 68 = .ok (.aload_n 0, 1) := by decide +kernel
theorem dX12_text_69 : decode cX12_text 69 = .ok (.iconst 0, 1) := by decide +kernel
theorem dX12_text_70 : decode cX12_text 70 = .ok (.putfield 331, 3) := by decide +kernel
theorem dX12_text_73 : decode cX12_text 73 = .ok (.aload_n 0, 1) := by decide +kernel
theorem dX12_text_74 : decode cX12_text 74 = .ok (.invokevirtual 376, 3) := by decide +kernel
theorem dX12_text_77 : decode cX12_text 77 = .ok (.aload_n 0, 1) := by decide +kernel
theorem dX12_text_78 : decode cX12_text 78 = .ok (.getfield 322, 3) := by decide +kernel
theorem dX12_text_81 : decode cX12_text 81 = .ok (.ifCond .ge 29, 3) := by decide +kernel
theorem dX12_text_84 : decode cX12_text 84 = .ok (.aload_n 0, 1) := by decide +kernel
theorem dX12_text_85 : decode cX12_text 85 = .ok (.invokevirtual 337, 3) := by decide +kernel
theorem dX12_text_88 : decode cX12_text 88 = .ok (.bipush 59, 2) := by decide +kernel
theorem dX12_text_90 : decode cX12_text 90 = .ok (.if_icmp .ne 20, 3) := by decide +kernel
theorem dX12_text_93 : decode cX12_text 93 = .ok (.aload_n 0, 1) := by decide +kernel
theorem dX12_text_94 : decode cX12_text 94 = .ok (.dup, 1) := by decide +kernel
theorem dX12_text_95 : decode cX12_text 95 = .ok (.getfield 319, 3) := by decide +kernel
theorem dX12_text_98 : decode cX12_text 98 = .ok (.iconst 1, 1) := by decide +kernel
theorem dX12_text_99 : decode cX12_text 99 = .ok (.iadd, 1) := by decide +kernel
theorem dX12_text_100 : decode cX12_text 100 = .ok (.putfield 319, 3) := by decide +kernel
theorem dX12_text_103 : decode cX12_text 103 = .ok (.aload_n 0, 1) := by decide +kernel
theorem dX12_text_104 : decode cX12_text 104 = .ok (.invokevirtual 376, 3) := by decide +kernel
theorem dX12_text_107 : decode cX12_text 107 = .ok (.goto (-30), 3) := by decide +kernel
theorem dX12_text_110 : decode cX12_text 110 = .ok (.aload_n 0, 1) := by decide +kernel
theorem dX12_text_111 : decode cX12_text 111 = .ok (.getfield 322, 3) := by decide +kernel
theorem dX12_text_114 : decode cX12_text 114 = .ok (.ifCond .ge 18, 3) := by decide +kernel
theorem dX12_text_117 : decode cX12_text 117 = .ok (.aload_n 0, 1) := by decide +kernel
theorem dX12_text_118 : decode cX12_text 118 = .ok (.getfield 319, 3) := by decide +kernel
theorem dX12_text_121 : decode cX12_text 121 = .ok (.aload_n 0, 1) := by decide +kernel
theorem dX12_text_122 : decode cX12_text 122 = .ok (.getfield 316, 3) := by decide +kernel
theorem dX12_text_125 : decode cX12_text 125 = .ok (.if_icmp .ge 7, 3) := by decide +kernel
theorem dX12_text_128 : decode cX12_text 128 = .ok (.aload_n 0, 1) := by decide +kernel
theorem dX12_text_129 : decode cX12_text 129 = .ok (.invokevirtual 334, 3) := by decide +kernel
theorem dX12_text_132 : decode cX12_text 132 = .ok (.aload_n 0, 1) := by decide +kernel
theorem dX12_text_133 : decode cX12_text 133 = .ok (.iconst 0, 1) := by decide +kernel
theorem dX12_text_134 : decode cX12_text 134 = .ok (.putfield 316, 3) := by decide +kernel
theorem dX12_text_137 : decode cX12_text 137 = .ok (.aload_n 0, 1) := by decide +kernel
theorem dX12_text_138 : decode cX12_text 138 = .ok (.getfield 322, 3) := by decide +kernel
theorem dX12_text_141 : decode cX12_text 141 = .ok (.ifCond .lt 11, 3) := by decide +kernel
theorem dX12_text_144 : decode cX12_text 144 = .ok (.bipush (-100), 2) := by decide +kernel
theorem dX12_text_146 : decode cX12_text 146 = .ok (.aload_n 0, 1) := by decide +kernel
theorem dX12_text_147 : decode cX12_text 147 = .ok (.getfield 322, 3) := by decide +kernel
theorem dX12_text_150 : decode cX12_text 150 = .ok (.isub, 1) := by decide +kernel
theorem dX12_text_151 : decode cX12_text 151 = .ok (.ireturn, 1) := by decide +kernel
theorem dX12_text_152 : decode cX12_text 152 = .ok (.aload_n 0, 1) := by decide +kernel
theorem dX12_text_153 : decode cX12_text 153 = .ok (.getfield 100, 3) := by decide +kernel
theorem dX12_text_156 : decode cX12_text 156 = .ok (.aload_n 0, 1) := by decide +kernel
theorem dX12_text_157 : decode cX12_text 157 = .ok (.getfield 373, 3) := by decide +kernel
theorem dX12_text_160 : decode cX12_text 160 = .ok (.iload_n 1, 1) := by decide +kernel
theorem dX12_text_161 : decode cX12_text 161 = .ok (.iastore, 1) := by decide +kernel
theorem dX12_text_162 : decode cX12_text 162 = .ok (.aload_n 0, 1) := by decide +kernel
theorem dX12_text_163 : decode cX12_text 163 = .ok (.getfield 103, 3) := by decide +kernel
theorem dX12_text_166 : decode cX12_text 166 = .ok (.aload_n 0, 1) := by decide +kernel
theorem dX12_text_167 : decode cX12_text 167 = .ok (.getfield 373, 3) := by decide +kernel
theorem dX12_text_170 : decode cX12_text 170 = .ok (.aload_n 0, 1) := by decide +kernel
theorem dX12_text_171 : decode cX12_text 171 = .ok (.getfield 281, 3) := by decide +kernel
theorem dX12_text_174 : decode cX12_text 174 = .ok (.iastore, 1) := by decide +kernel
theorem dX12_text_175 : decode cX12_text 175 = .ok (.aload_n 0, 1) := by decide +kernel
theorem dX12_text_176 : decode cX12_text 176 = .ok (.getfield 106, 3) := by decide +kernel
theorem dX12_text_179 : decode cX12_text 179 = .ok (.aload_n 0, 1) := by decide +kernel
theorem dX12_text_180 : decode cX12_text 180 = .ok (.getfield 373, 3) := by decide +kernel
theorem dX12_text_183 : decode cX12_text 183 = .ok (.iload_n 2, 1) := by decide +kernel
theorem dX12_text_184 : decode cX12_text 184 = .ok (.iastore, 1) := by decide +kernel
theorem dX12_text_185 : decode cX12_text 185 = .ok (.aload_n 0, 1) := by decide +kernel
theorem dX12_text_186 : decode cX12_text 186 = .ok (.dup, 1) := by decide +kernel
theorem dX12_text_187 : decode cX12_text 187 = .ok (.getfield 373, 3) := by decide +kernel
theorem dX12_text_190 : decode cX12_text 190 = .ok (.iconst 1, 1) := by decide +kernel
theorem dX12_text_191 : decode cX12_text 191 = .ok (.iadd, 1) := by decide +kernel
theorem dX12_text_192 : decode cX12_text 192 = .ok (.putfield 373, 3) := by decide +kernel
theorem dX12_text_195 : decode cX12_text 195 = .ok (.aload_n 0, 1) := by decide +kernel
theorem dX12_text_196 : decode cX12_text 196 = .ok (.getfield 373, 3) := by decide +kernel
theorem dX12_text_199 : decode cX12_text 199 = .ok (.iconst 1, 1) := by decide +kernel
theorem dX12_text_200 : decode cX12_text 200 = .ok (.isub, 1) := by decide +kernel
theorem dX12_text_201 : decode cX12_text 201 = .ok (.ireturn, 1) := by decide +kernel
theorem dX12_forceOf_0 : decode cX12_forceOf 0 = .ok (.aload_n 0, 1) := by decide +kernel
theorem dX12_forceOf_1 : decode cX12_forceOf 1 = .ok (.invokevirtual 379, 3) := by decide +kernel
theorem dX12_forceOf_4 : decode cX12_forceOf 4 = .ok (.iload_n 3, 1) := by decide +kernel
theorem dX12_forceOf_5 : decode cX12_forceOf 5 = .ok (.if_icmp .gt 7, 3) := by decide +kernel
theorem dX12_forceOf_8 : decode cX12_forceOf 8 = .ok (.iconst 1, 1) := by decide +kernel
theorem dX12_forceOf_9 : decode cX12_forceOf 9 = .ok (.goto 4, 3) := by decide +kernel
theorem dX12_forceOf_12 : decode cX12_forceOf 12 = .ok (.iconst 0, 1) := by decide +kernel
theorem dX12_forceOf_13 : decode cX12_forceOf 13 = .ok (.istore 4, 2) := by decide +kernel
theorem dX12_forceOf_15 : decode cX12_forceOf 15 = .ok (.aload_n 0, 1) := by decide +kernel
theorem dX12_forceOf_16 : decode cX12_forceOf 16 = .ok (.getfield 373, 3) := by decide +kernel
theorem dX12_forceOf_19 : decode cX12_forceOf 19 = .ok (.iconst 1, 1) := by decide +kernel
theorem dX12_forceOf_20 : decode cX12_forceOf 20 = .ok (.isub, 1) := by decide +kernel
theorem dX12_forceOf_21 : decode cX12_forceOf 21 = .ok (.istore 5, 2) := by decide +kernel
theorem dX12_forceOf_23 : decode cX12_forceOf 23 = .ok (.iload 5, 2) := by decide +kernel
theorem dX12_forceOf_25 : decode cX12_forceOf 25 = .ok (.ifCond .lt 73, 3) := by decide +kernel
theorem dX12_forceOf_28 : decode cX12_forceOf 28 = .ok (.aload_n 0, 1) := by decide +kernel
theorem dX12_forceOf_29 : decode cX12_forceOf 29 = .ok (.getfield 100, 3) := by decide +kernel
theorem dX12_forceOf_32 : decode cX12_forceOf 32 = .ok (.iload 5, 2) := by decide +kernel
theorem dX12_forceOf_34 : decode cX12_forceOf 34 = .ok (.iaload, 1) := by decide +kernel
theorem dX12_forceOf_35 : decode cX12_forceOf 35 = .ok (.bipush 10, 2) := by decide +kernel
theorem dX12_forceOf_37 : decode cX12_forceOf 37 = .ok (.irem, 1) := by decide +kernel
theorem dX12_forceOf_38 : decode cX12_forceOf 38 = .ok (.iload_n 1, 1) := by decide +kernel
theorem dX12_forceOf_39 : decode cX12_forceOf 39 = .ok (.bipush 10, 2) := by decide +kernel
theorem dX12_forceOf_41 : decode cX12_forceOf 41 = .ok (.irem, 1) := by decide +kernel
theorem dX12_forceOf_42 : decode cX12_forceOf 42 = .ok (.if_icmp .ne 50, 3) := by decide +kernel
theorem dX12_forceOf_45 : decode cX12_forceOf 45 = .ok (.aload_n 0, 1) := by decide +kernel
theorem dX12_forceOf_46 : decode cX12_forceOf 46 = .ok (.getfield 100, 3) := by decide +kernel
theorem dX12_forceOf_49 : decode cX12_forceOf 49 = .ok (.iload 5, 2) := by decide +kernel
theorem dX12_forceOf_51 : decode cX12_forceOf 51 = .ok (.iaload, 1) := by decide +kernel
theorem dX12_forceOf_52 : decode cX12_forceOf 52 = .ok (.bipush 10, 2) := by decide +kernel
theorem dX12_forceOf_54 : decode cX12_forceOf 54 = .ok (.idiv, 1) := by decide +kernel
theorem dX12_forceOf_55 : decode cX12_forceOf 55 = .ok (.iload_n 1, 1) := by decide +kernel
theorem dX12_forceOf_56 : decode cX12_forceOf 56 = .ok (.bipush 10, 2) := by decide +kernel
theorem dX12_forceOf_58 : decode cX12_forceOf 58 = .ok (.idiv, 1) := by decide +kernel
theorem dX12_forceOf_59 : decode cX12_forceOf 59 = .ok (.if_icmp .eq 8, 3) := by decide +kernel
theorem dX12_forceOf_62 : decode cX12_forceOf 62 = .ok (.iload 4, 2) := by decide +kernel
theorem dX12_forceOf_64 : decode cX12_forceOf 64 = .ok (.ifCond .eq 28, 3) := by decide +kernel
theorem dX12_forceOf_67 : decode cX12_forceOf 67 = .ok (.aload_n 0, 1) := by decide +kernel
theorem dX12_forceOf_68 : decode cX12_forceOf 68 = .ok (.getfield 103, 3) := by decide +kernel
theorem dX12_forceOf_71 : decode cX12_forceOf 71 = .ok (.iload 5, 2) := by decide +kernel
theorem dX12_forceOf_73 : decode cX12_forceOf 73 = .ok (.iaload, 1) := by decide +kernel
theorem dX12_forceOf_74 : decode cX12_forceOf 74 = .ok (.iload_n 3, 1) := by decide +kernel
theorem dX12_forceOf_75 : decode cX12_forceOf 75 = .ok (.if_icmp .gt 17, 3) := by decide +kernel
theorem dX12_forceOf_78 : decode cX12_forceOf 78 = .ok (.aload_n 0, 1) := by decide +kernel
theorem dX12_forceOf_79 : decode cX12_forceOf 79 = .ok (.getfield 106, 3) := by decide +kernel
theorem dX12_forceOf_82 : decode cX12_forceOf 82 = .ok (.iload 5, 2) := by decide +kernel
theorem dX12_forceOf_84 : decode cX12_forceOf 84 = .ok (.iaload, 1) := by decide +kernel
theorem dX12_forceOf_85 : decode cX12_forceOf 85 = .ok (.iload_n 2, 1) := by decide +kernel
theorem dX12_forceOf_86 : decode cX12_forceOf 86 = .ok (.if_icmp .gt 6, 3) := by decide +kernel
theorem dX12_forceOf_89 : decode cX12_forceOf 89 = .ok (.iload 5, 2) := by decide +kernel
theorem dX12_forceOf_91 : decode cX12_forceOf 91 = .ok (.ireturn, 1) := by decide +kernel
theorem dX12_forceOf_92 : decode cX12_forceOf 92 = .ok (.iinc 5 (-1), 3) := by decide +kernel
theorem dX12_forceOf_95 : decode cX12_forceOf 95 = .ok (.goto (-72), 3) := by decide +kernel
theorem dX12_forceOf_98 : decode cX12_forceOf 98 = .ok (.bipush (-2), 2) := by decide +kernel
theorem dX12_forceOf_100 : decode cX12_forceOf 100 = .ok (.ireturn, 1) := by decide +kernel
theorem dX12_inForce_0 : decode cX12_inForce 0 = .ok (.iload_n 1, 1) := by decide +kernel
theorem dX12_inForce_1 : decode cX12_inForce 1 = .ok (.invokestatic 370, 3) := by decide +kernel
theorem dX12_inForce_4 : decode cX12_inForce 4 = .ok (.ifCond .eq 27, 3) := by decide +kernel
theorem dX12_inForce_7 : decode cX12_inForce 7 = .ok (.iload_n 2, 1) := by decide +kernel
theorem dX12_inForce_8 : decode cX12_inForce 8 = .ok (.invokestatic 382, 3) := by decide +kernel
theorem dX12_inForce_11 : decode cX12_inForce 11 = .ok (.ifCond .eq 20, 3) := by decide +kernel
theorem dX12_inForce_14 : decode cX12_inForce 14 = .ok (.iload_n 3, 1) := by decide +kernel
theorem dX12_inForce_15 : decode cX12_inForce 15 = .ok (.invokestatic 382, 3) := by decide +kernel
theorem dX12_inForce_18 : decode cX12_inForce 18 = .ok (.ifCond .eq 13, 3) := by decide +kernel
theorem dX12_inForce_21 : decode cX12_inForce 21 = .ok (.aload_n 0, 1) := by decide +kernel
theorem dX12_inForce_22 : decode cX12_inForce 22 = .ok (.iload_n 1, 1) := by decide +kernel
theorem dX12_inForce_23 : decode cX12_inForce 23 = .ok (.iload_n 2, 1) := by decide +kernel
theorem dX12_inForce_24 : decode cX12_inForce 24 = .ok (.iload_n 3, 1) := by decide +kernel
theorem dX12_inForce_25 : decode cX12_inForce 25 = .ok (.invokevirtual 385, 3) := by decide +kernel
theorem dX12_inForce_28 : decode cX12_inForce 28 = .ok (.goto 4, 3) := by decide +kernel
theorem dX12_inForce_31 : decode cX12_inForce 31 = .ok (.iconst (-1), 1) := by decide +kernel
theorem dX12_inForce_32 : decode cX12_inForce 32 = .ok (.ireturn, 1) := by decide +kernel
theorem dX12_both_0 : decode cX12_both 0 = .ok (.iload_n 0, 1) := by decide +kernel
theorem dX12_both_1 : decode cX12_both 1 = .ok (.tableswitch 217 37 62 #[153, 203, 217, 217, 217, 127, 119, 217, 123, 217, 131, 217, 217, 217, 217, 217, 217, 217, 217, 217, 217, 217, 217, 170, 181, 192], 119) := by decide +kernel
theorem dX12_both_120 : decode cX12_both 120 = .ok (.iload_n 1, 1) := by decide +kernel
theorem dX12_both_121 : decode cX12_both 121 = .ok (.iload_n 2, 1) := by decide +kernel
theorem dX12_both_122 : decode cX12_both 122 = .ok (.iadd, 1) := by decide +kernel
theorem dX12_both_123 : decode cX12_both 123 = .ok (.ireturn, 1) := by decide +kernel
theorem dX12_both_124 : decode cX12_both 124 = .ok (.iload_n 1, 1) := by decide +kernel
theorem dX12_both_125 : decode cX12_both 125 = .ok (.iload_n 2, 1) := by decide +kernel
theorem dX12_both_126 : decode cX12_both 126 = .ok (.isub, 1) := by decide +kernel
theorem dX12_both_127 : decode cX12_both 127 = .ok (.ireturn, 1) := by decide +kernel
theorem dX12_both_128 : decode cX12_both 128 = .ok (.iload_n 1, 1) := by decide +kernel
theorem dX12_both_129 : decode cX12_both 129 = .ok (.iload_n 2, 1) := by decide +kernel
theorem dX12_both_130 : decode cX12_both 130 = .ok (.imul, 1) := by decide +kernel
theorem dX12_both_131 : decode cX12_both 131 = .ok (.ireturn, 1) := by decide +kernel
theorem dX12_both_132 : decode cX12_both 132 = .ok (.iload_n 2, 1) := by decide +kernel
theorem dX12_both_133 : decode cX12_both 133 = .ok (.ifCond .ne 7, 3) := by decide +kernel
theorem dX12_both_136 : decode cX12_both 136 = .ok (.iconst 0, 1) := by decide +kernel
theorem dX12_both_137 : decode cX12_both 137 = .ok (.goto 16, 3) := by decide +kernel
theorem dX12_both_140 : decode cX12_both 140 = .ok (.iload_n 2, 1) := by decide +kernel
theorem dX12_both_141 : decode cX12_both 141 = .ok (.iconst (-1), 1) := by decide +kernel
theorem dX12_both_142 : decode cX12_both 142 = .ok (.if_icmp .ne 8, 3) := by decide +kernel
theorem dX12_both_145 : decode cX12_both 145 = .ok (.iload_n 1, 1) := by decide +kernel
theorem dX12_both_146 : decode cX12_both 146 = .ok (.ineg, 1) := by decide +kernel
theorem dX12_both_147 : decode cX12_both 147 = .ok (.goto 6, 3) := by decide +kernel
theorem dX12_both_150 : decode cX12_both 150 = .ok (.iload_n 1, 1) := by decide +kernel
theorem dX12_both_151 : decode cX12_both 151 = .ok (.iload_n 2, 1) := by decide +kernel
theorem dX12_both_152 : decode cX12_both 152 = .ok (.idiv, 1) := by decide +kernel
theorem dX12_both_153 : decode cX12_both 153 = .ok (.ireturn, 1) := by decide +kernel
theorem dX12_both_154 : decode cX12_both 154 = .ok (.iload_n 2, 1) := by decide +kernel
theorem dX12_both_155 : decode cX12_both 155 = .ok (.ifCond .eq 8, 3) := by decide +kernel
theorem dX12_both_158 : decode cX12_both 158 = .ok (.iload_n 2, 1) := by decide +kernel
theorem dX12_both_159 : decode cX12_both 159 = .ok (.iconst (-1), 1) := by decide +kernel
theorem dX12_both_160 : decode cX12_both 160 = .ok (.if_icmp .ne 7, 3) := by decide +kernel
theorem dX12_both_163 : decode cX12_both 163 = .ok (.iconst 0, 1) := by decide +kernel
theorem dX12_both_164 : decode cX12_both 164 = .ok (.goto 6, 3) := by decide +kernel
theorem dX12_both_167 : decode cX12_both 167 = .ok (.iload_n 1, 1) := by decide +kernel
theorem dX12_both_168 : decode cX12_both 168 = .ok (.iload_n 2, 1) := by decide +kernel
theorem dX12_both_169 : decode cX12_both 169 = .ok (.irem, 1) := by decide +kernel
theorem dX12_both_170 : decode cX12_both 170 = .ok (.ireturn, 1) := by decide +kernel
theorem dX12_both_171 : decode cX12_both 171 = .ok (.iload_n 1, 1) := by decide +kernel
theorem dX12_both_172 : decode cX12_both 172 = .ok (.iload_n 2, 1) := by decide +kernel
theorem dX12_both_173 : decode cX12_both 173 = .ok (.if_icmp .ge 7, 3) := by decide +kernel
theorem dX12_both_176 : decode cX12_both 176 = .ok (.iconst 1, 1) := by decide +kernel
theorem dX12_both_177 : decode cX12_both 177 = .ok (.goto 4, 3) := by decide +kernel
theorem dX12_both_180 : decode cX12_both 180 = .ok (.iconst 0, 1) := by decide +kernel
theorem dX12_both_181 : decode cX12_both 181 = .ok (.ireturn, 1) := by decide +kernel
theorem dX12_both_182 : decode cX12_both 182 = .ok (.iload_n 1, 1) := by decide +kernel
theorem dX12_both_183 : decode cX12_both 183 = .ok (.iload_n 2, 1) := by decide +kernel
theorem dX12_both_184 : decode cX12_both 184 = .ok (.if_icmp .ne 7, 3) := by decide +kernel
theorem dX12_both_187 : decode cX12_both 187 = .ok (.iconst 1, 1) := by decide +kernel
theorem dX12_both_188 : decode cX12_both 188 = .ok (.goto 4, 3) := by decide +kernel
theorem dX12_both_191 : decode cX12_both 191 = .ok (.iconst 0, 1) := by decide +kernel
theorem dX12_both_192 : decode cX12_both 192 = .ok (.ireturn, 1) := by decide +kernel
theorem dX12_both_193 : decode cX12_both 193 = .ok (.iload_n 1, 1) := by decide +kernel
theorem dX12_both_194 : decode cX12_both 194 = .ok (.iload_n 2, 1) := by decide +kernel
theorem dX12_both_195 : decode cX12_both 195 = .ok (.if_icmp .le 7, 3) := by decide +kernel
theorem dX12_both_198 : decode cX12_both 198 = .ok (.iconst 1, 1) := by decide +kernel
theorem dX12_both_199 : decode cX12_both 199 = .ok (.goto 4, 3) := by decide +kernel
theorem dX12_both_202 : decode cX12_both 202 = .ok (.iconst 0, 1) := by decide +kernel
theorem dX12_both_203 : decode cX12_both 203 = .ok (.ireturn, 1) := by decide +kernel
theorem dX12_both_204 : decode cX12_both 204 = .ok (.iload_n 1, 1) := by decide +kernel
theorem dX12_both_205 : decode cX12_both 205 = .ok (.ifCond .eq 11, 3) := by decide +kernel
theorem dX12_both_208 : decode cX12_both 208 = .ok (.iload_n 2, 1) := by decide +kernel
theorem dX12_both_209 : decode cX12_both 209 = .ok (.ifCond .eq 7, 3) := by decide +kernel
theorem dX12_both_212 : decode cX12_both 212 = .ok (.iconst 1, 1) := by decide +kernel
theorem dX12_both_213 : decode cX12_both 213 = .ok (.goto 4, 3) := by decide +kernel
theorem dX12_both_216 : decode cX12_both 216 = .ok (.iconst 0, 1) := by decide +kernel
theorem dX12_both_217 : decode cX12_both 217 = .ok (.ireturn, 1) := by decide +kernel
theorem dX12_both_218 : decode cX12_both 218 = .ok (.iload_n 1, 1) := by decide +kernel
theorem dX12_both_219 : decode cX12_both 219 = .ok (.ifCond .ne 7, 3) := by decide +kernel
theorem dX12_both_222 : decode cX12_both 222 = .ok (.iload_n 2, 1) := by decide +kernel
theorem dX12_both_223 : decode cX12_both 223 = .ok (.ifCond .eq 7, 3) := by decide +kernel
theorem dX12_both_226 : decode cX12_both 226 = .ok (.iconst 1, 1) := by decide +kernel
theorem dX12_both_227 : decode cX12_both 227 = .ok (.goto 4, 3) := by decide +kernel
theorem dX12_both_230 : decode cX12_both 230 = .ok (.iconst 0, 1) := by decide +kernel
theorem dX12_both_231 : decode cX12_both 231 = .ok (.ireturn, 1) := by decide +kernel
theorem dX12_worked_0 : decode cX12_worked 0 = .ok (.iconst 0, 1) := by decide +kernel
theorem dX12_worked_1 : decode cX12_worked 1 = .ok (.istore 4, 2) := by decide +kernel
theorem dX12_worked_3 : decode cX12_worked 3 = .ok (.sipush 170, 3) := by decide +kernel
theorem dX12_worked_6 : decode cX12_worked 6 = .ok (.iload_n 1, 1) := by decide +kernel
theorem dX12_worked_7 : decode cX12_worked 7 = .ok (.imul, 1) := by decide +kernel
theorem dX12_worked_8 : decode cX12_worked 8 = .ok (.iload_n 2, 1) := by decide +kernel
theorem dX12_worked_9 : decode cX12_worked 9 = .ok (.iadd, 1) := by decide +kernel
