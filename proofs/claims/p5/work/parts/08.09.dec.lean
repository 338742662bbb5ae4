theorem dX11_known_13 : decode cX11_known 13 = .ok (.istore_n 2, 1) := by decide +kernel
theorem dX11_known_14 : decode cX11_known 14 = .ok (.iconst 1, 1) := by decide +kernel
theorem dX11_known_15 : decode cX11_known 15 = .ok (.istore_n 3, 1) := by decide +kernel
theorem dX11_known_16 : decode cX11_known 16 = .ok (.bipush 32, 2) := by decide +kernel
theorem dX11_known_18 : decode cX11_known 18 = .ok (.istore 4, 2) := by decide +kernel
theorem dX11_known_20 : decode cX11_known 20 = .ok (.iconst (-1), 1) := by decide +kernel
theorem dX11_known_21 : decode cX11_known 21 = .ok (.istore 5, 2) := by decide +kernel
theorem dX11_known_23 : decode cX11_known 23 = .ok (.iconst 0, 1) := by decide +kernel
theorem dX11_known_24 : decode cX11_known 24 = .ok (.istore 6, 2) := by decide +kernel
theorem dX11_known_26 : decode cX11_known 26 = .ok (.iconst 0, 1) := by decide +kernel
theorem dX11_known_27 : decode cX11_known 27 = .ok (.istore 7, 2) := by decide +kernel
theorem dX11_known_29 : decode cX11_known 29 = .ok (.iload 7, 2) := by decide +kernel
theorem dX11_known_31 : decode cX11_known 31 = .ok (.aload_n 0, 1) := by decide +kernel
theorem dX11_known_32 : decode cX11_known 32 = .ok (.getfield 220, 3) := by decide +kernel
theorem dX11_known_35 : decode cX11_known 35 = .ok (.if_icmp .ge 154, 3) := by decide +kernel
theorem dX11_known_38 : decode cX11_known 38 = .ok (.aload_n 0, 1) := by decide +kernel
theorem dX11_known_39 : decode cX11_known 39 = .ok (.getfield 41, 3) := by decide +kernel
theorem dX11_known_42 : decode cX11_known 42 = .ok (.iload 7, 2) := by decide +kernel
theorem dX11_known_44 : decode cX11_known 44 = .ok (.aaload, 1) := by decide +kernel
theorem dX11_known_45 : decode cX11_known 45 = .ok (.astore 8, 2) := by decide +kernel
theorem dX11_known_47 : decode cX11_known 47 = .ok (.aload 8, 2) := by decide +kernel
theorem dX11_known_49 : decode cX11_known 49 = .ok (.ifnull 134, 3) := by decide +kernel
theorem dX11_known_52 : decode cX11_known 52 = .ok (.aload_n 0, 1) := by decide +kernel
theorem dX11_known_53 : decode cX11_known 53 = .ok (.aload 8, 2) := by decide +kernel
theorem dX11_known_55 : decode cX11_known 55 = .ok (.invokevirtual 237, 3) := by decide +kernel
theorem dX11_known_58 : decode cX11_known 58 = .ok (.bipush (-2), 2) := by decide +kernel
theorem dX11_known_60 : decode cX11_known 60 = .ok (.if_icmp .eq 6, 3) := by decide +kernel
theorem dX11_known_63 : decode cX11_known 63 = .ok (.goto 120, 3) := by decide +kernel
theorem dX11_known_66 : decode cX11_known 66 = .ok (.iload_n 2, 1) := by decide +kernel
theorem dX11_known_67 : decode cX11_known 67 = .ok (.bipush (-2), 2) := by decide +kernel
theorem dX11_known_69 : decode cX11_known 69 = .ok (.if_icmp .ne 7, 3) := by decide +kernel
theorem dX11_known_72 : decode cX11_known 72 = .ok (.iconst 1, 1) := by decide +kernel
theorem dX11_known_73 : decode cX11_known 73 = .ok (.goto 4, 3) := by decide +kernel
theorem dX11_known_76 : decode cX11_known 76 = .ok (.iconst 0, 1) := by decide +kernel
theorem dX11_known_77 : decode cX11_known 77 = .ok (.istore 9, 2) := by decide +kernel
theorem dX11_known_79 : decode cX11_known 79 = .ok (.iload_n 3, 1) := by decide +kernel
theorem dX11_known_80 : decode cX11_known 80 = .ok (.ifCond .eq 22, 3) := by decide +kernel
theorem dX11_known_83 : decode cX11_known 83 = .ok (.iload 9, 2) := by decide +kernel
theorem dX11_known_85 : decode cX11_known 85 = .ok (.ifCond .ne 13, 3) := by decide +kernel
theorem dX11_known_88 : decode cX11_known 88 = .ok (.aload 8, 2) := by decide +kernel
theorem dX11_known_90 : decode cX11_known 90 = .ok (.getfield 241, 3) := by decide +kernel
theorem dX11_known_93 : decode cX11_known 93 = .ok (.iload 6, 2) := by decide +kernel
theorem dX11_known_95 : decode cX11_known 95 = .ok (.if_icmp .ne 7, 3) := by decide +kernel
theorem dX11_known_98 : decode cX11_known 98 = .ok (.iconst 1, 1) := by decide +kernel
theorem dX11_known_99 : decode cX11_known 99 = .ok (.goto 4, 3) := by decide +kernel
theorem dX11_known_102 : decode cX11_known 102 = .ok (.iconst 0, 1) := by decide +kernel
theorem dX11_known_103 : decode cX11_known 103 = .ok (.istore_n 3, 1) := by decide +kernel
theorem dX11_known_104 : decode cX11_known 104 = .ok (.aload 8, 2) := by decide +kernel
theorem dX11_known_106 : decode cX11_known 106 = .ok (.getfield 241, 3) := by decide +kernel
theorem dX11_known_109 : decode cX11_known 109 = .ok (.istore 6, 2) := by decide +kernel
theorem dX11_known_111 : decode cX11_known 111 = .ok (.iload 5, 2) := by decide +kernel
theorem dX11_known_113 : decode cX11_known 113 = .ok (.aload 8, 2) := by decide +kernel
theorem dX11_known_115 : decode cX11_known 115 = .ok (.getfield 244, 3) := by decide +kernel
theorem dX11_known_118 : decode cX11_known 118 = .ok (.invokestatic 247, 3) := by decide +kernel
theorem dX11_known_121 : decode cX11_known 121 = .ok (.istore 5, 2) := by decide +kernel
theorem dX11_known_123 : decode cX11_known 123 = .ok (.iload 4, 2) := by decide +kernel
theorem dX11_known_125 : decode cX11_known 125 = .ok (.aload 8, 2) := by decide +kernel
theorem dX11_known_127 : decode cX11_known 127 = .ok (.getfield 252, 3) := by decide +kernel
theorem dX11_known_130 : decode cX11_known 130 = .ok (.invokestatic 255, 3) := by decide +kernel
theorem dX11_known_133 : decode cX11_known 133 = .ok (.istore 4, 2) := by decide +kernel
theorem dX11_known_135 : decode cX11_known 135 = .ok (.aload 8, 2) := by decide +kernel
theorem dX11_known_137 : decode cX11_known 137 = .ok (.iload_n 1, 1) := by decide +kernel
theorem dX11_known_138 : decode cX11_known 138 = .ok (.invokevirtual 258, 3) := by decide +kernel
theorem dX11_known_141 : decode cX11_known 141 = .ok (.istore 10, 2) := by decide +kernel
theorem dX11_known_143 : decode cX11_known 143 = .ok (.iload 9, 2) := by decide +kernel
theorem dX11_known_145 : decode cX11_known 145 = .ok (.ifCond .eq 8, 3) := by decide +kernel
theorem dX11_known_148 : decode cX11_known 148 = .ok (.iload 10, 2) := by decide +kernel
theorem dX11_known_150 : decode cX11_known 150 = .ok (.goto 32, 3) := by decide +kernel
theorem dX11_known_153 : decode cX11_known 153 = .ok (.iload_n 1, 1) := by decide +kernel
theorem dX11_known_154 : decode cX11_known 154 = .ok (.ifCond .eq 13, 3) := by decide +kernel
theorem dX11_known_157 : decode cX11_known 157 = .ok (.iload_n 1, 1) := by decide +kernel
theorem dX11_known_158 : decode cX11_known 158 = .ok (.iconst 2, 1) := by decide +kernel
theorem dX11_known_159 : decode cX11_known 159 = .ok (.if_icmp .eq 8, 3) := by decide +kernel
theorem dX11_known_162 : decode cX11_known 162 = .ok (.iload_n 1, 1) := by decide +kernel
theorem dX11_known_163 : decode cX11_known 163 = .ok (.iconst 5, 1) := by decide +kernel
theorem dX11_known_164 : decode cX11_known 164 = .ok (.if_icmp .ne 12, 3) := by decide +kernel
theorem dX11_known_167 : decode cX11_known 167 = .ok (.iload_n 2, 1) := by decide +kernel
theorem dX11_known_168 : decode cX11_known 168 = .ok (.iload 10, 2) := by decide +kernel
theorem dX11_known_170 : decode cX11_known 170 = .ok (.invokestatic 255, 3) := by decide +kernel
theorem dX11_known_173 : decode cX11_known 173 = .ok (.goto 9, 3) := by decide +kernel
theorem dX11_known_176 : decode cX11_known 176 = .ok (.iload_n 2, 1) := by decide +kernel
theorem dX11_known_177 : decode cX11_known 177 = .ok (.iload 10, 2) := by decide +kernel
theorem dX11_known_179 : decode cX11_known 179 = .ok (.invokestatic 247, 3) := by decide +kernel
theorem dX11_known_182 : decode cX11_known 182 = .ok (.istore_n 2, 1) := by decide +kernel
theorem dX11_known_183 : decode cX11_known 183 = .ok (.iinc 7 1, 3) := by decide +kernel
theorem dX11_known_186 : decode cX11_known 186 = .ok (.goto (-157), 3) := by decide +kernel
theorem dX11_known_189 : decode cX11_known 189 = .ok (.iload_n 1, 1) := by decide +kernel
theorem dX11_known_190 : decode cX11_known 190 = .ok (.iconst 4, 1) := by decide +kernel
theorem dX11_known_191 : decode cX11_known 191 = .ok (.if_icmp .lt 17, 3) := by decide +kernel
theorem dX11_known_194 : decode cX11_known 194 = .ok (.iload_n 3, 1) := by decide +kernel
theorem dX11_known_195 : decode cX11_known 195 = .ok (.ifCond .eq 10, 3) := by decide +kernel
theorem dX11_known_198 : decode cX11_known 198 = .ok (.iload 5, 2) := by decide +kernel
theorem dX11_known_200 : decode cX11_known 200 = .ok (.iload 4, 2) := by decide +kernel
theorem dX11_known_202 : decode cX11_known 202 = .ok (.if_icmp .le 6, 3) := by decide +kernel
theorem dX11_known_205 : decode cX11_known 205 = .ok (.bipush (-2), 2) := by decide +kernel
theorem dX11_known_207 : decode cX11_known 207 = .ok (.ireturn, 1) := by decide +kernel
theorem dX11_known_208 : decode cX11_known 208 = .ok (.iload_n 2, 1) := by decide +kernel
theorem dX11_known_209 : decode cX11_known 209 = .ok (.ireturn, 1) := by decide +kernel
theorem dX11_feed_0 : decode cX11_feed 0 = .ok (.iload_n 1, 1) := by decide +kernel
theorem dX11_feed_1 : decode cX11_feed 1 = .ok (.iconst 1, 1) := by decide +kernel
theorem dX11_feed_2 : decode cX11_feed 2 = .ok (.if_icmp .lt 8, 3) := by decide +kernel
theorem dX11_feed_5 : decode cX11_feed 5 = .ok (.iload_n 1, 1) := by decide +kernel
theorem dX11_feed_6 : decode cX11_feed 6 = .ok (.iconst 4, 1) := by decide +kernel
theorem dX11_feed_7 : decode cX11_feed 7 = .ok (.if_icmp .le 5, 3) := by decide +kernel
theorem dX11_feed_10 : decode cX11_feed 10 = .ok (.iconst (-1), 1) := by decide +kernel
theorem dX11_feed_11 : decode cX11_feed 11 = .ok (.ireturn, 1) := by decide +kernel
theorem dX11_feed_12 : decode cX11_feed 12 = .ok (.aload_n 0, 1) := by decide +kernel
theorem dX11_feed_13 : decode cX11_feed 13 = .ok (.getfield 48, 3) := by decide +kernel
theorem dX11_feed_16 : decode cX11_feed 16 = .ok (.iload_n 1, 1) := by decide +kernel
theorem dX11_feed_17 : decode cX11_feed 17 = .ok (.iload_n 2, 1) := by decide +kernel
theorem dX11_feed_18 : decode cX11_feed 18 = .ok (.invokevirtual 261, 3) := by decide +kernel
theorem dX11_feed_21 : decode cX11_feed 21 = .ok (.ireturn, 1) := by decide +kernel
theorem dX11_text_0 : decode cX11_text 0 = .ok (.iload_n 1, 1) := by decide +kernel
theorem dX11_text_1 : decode cX11_text 1 = .ok (.invokestatic 264, 3) := by decide +kernel
theorem dX11_text_4 : decode cX11_text 4 = .ok (.ifCond .eq 18, 3) := by decide +kernel
theorem dX11_text_7 : decode cX11_text 7 = .ok (.iload_n 2, 1) := by decide +kernel
theorem dX11_text_8 : decode cX11_text 8 = .ok (.aload_n 0, 1) := by decide +kernel
theorem dX11_text_9 : decode cX11_text 9 = .ok (.getfield 168, 3) := by decide +kernel
theorem dX11_text_12 : decode cX11_text 12 = .ok (.if_icmp .lt 10, 3) := by decide +kernel
theorem dX11_text_15 : decode cX11_text 15 = .ok (.iload_n 2, 1) := by decide +kernel
theorem dX11_text_16 : decode cX11_text 16 = .ok (.sipush 1699, 3) := by decide +kernel
theorem dX11_text_19 : decode cX11_text 19 = .ok (.if_icmp .le 5, 3) := by decide +kernel
theorem dX11_text_22 : decode cX11_text 22 = .ok (.iconst (-1), 1) := by decide +kernel
theorem dX11_text_23 : decode cX11_text 23 = .ok (.ireturn, 1) := by decide +kernel
theorem dX11_text_24 : decode cX11_text 24 = .ok (.aload_n 0, 1) := by decide +kernel
theorem dX11_text_25 : decode cX11_text 25 = .ok (.getfield 267, 3) := by decide +kernel
theorem dX11_text_28 : decode cX11_text 28 = .ok (.bipush 16, 2) := by decide +kernel
theorem dX11_text_30 : decode cX11_text 30 = .ok (.if_icmp .lt 6, 3) := by decide +kernel
theorem dX11_text_33 : decode cX11_text 33 = .ok (.bipush (-3), 2) := by decide +kernel
theorem dX11_text_35 : decode cX11_text 35 = .ok (.ireturn, 1) := by decide +kernel
theorem dX11_text_36 : decode cX11_text 36 = .ok (.aload_n 0, 1) := by decide +kernel
theorem dX11_text_37 : decode cX11_text 37 = .ok (.getfield 48, 3) := by decide +kernel
theorem dX11_text_40 : decode cX11_text 40 = .ok (.invokevirtual 270, 3) := by decide +kernel
theorem dX11_text_43 : decode cX11_text 43 = .ok (.istore_n 3, 1) := by decide +kernel
theorem dX11_text_44 : decode cX11_text 44 = .ok (.aload_n 0, 1) := by decide +kernel
theorem dX11_text_45 : decode cX11_text 45 = .ok (.getfield 48, 3) := by decide +kernel
theorem dX11_text_48 : decode cX11_text 48 = .ok (.iconst 0, 1) := by decide +kernel
theorem dX11_text_49 : decode cX11_text 49 = .ok (.putfield 273, 3) := by decide +kernel
theorem dX11_text_52 : decode cX11_text 52 = .ok (.iload_n 3, 1) := by decide +kernel
theorem dX11_text_53 : decode cX11_text 53 = .ok (.ifCond .lt 8, 3) := by decide +kernel
theorem dX11_text_56 : decode cX11_text 56 = .ok (.bipush (-100), 2) := by decide +kernel
theorem dX11_text_58 : decode cX11_text 58 = .ok (.iload_n 3, 1) := by decide +kernel
theorem dX11_text_59 : decode cX11_text 59 = .ok (.isub, 1) := by decide +kernel
theorem dX11_text_60 : decode cX11_text 60 = .ok (.ireturn, 1) := by decide +kernel
theorem dX11_text_61 : decode cX11_text 61 = .ok (.aload_n 0, 1) := by decide +kernel
theorem dX11_text_62 : decode cX11_text 62 = .ok (.getfield 54, 3) := by decide +kernel
theorem dX11_text_65 : decode cX11_text 65 = .ok (.aload_n 0, 1) := by decide +kernel
theorem dX11_text_66 : decode cX11_text 66 = .ok (.getfield 267, 3) := by decide +kernel
theorem dX11_text_69 : decode cX11_text 69 = .ok (.new 52, 3) := by decide +kernel
theorem dX11_text_72 : decode cX11_text 72 = .ok (.dup, 1) := by decide +kernel
theorem dX11_text_73 : decode cX11_text 73 = .ok (.iload_n 1, 1) := by decide +kernel
theorem dX11_text_74 : decode cX11_text 74 = .ok (.bipush 10, 2) := by decide +kernel
theorem dX11_text_76 : decode cX11_text 76 = .ok (.idiv, 1) := by decide +kernel
theorem dX11_text_77 : decode cX11_text 77 = .ok (.iload_n 1, 1) := by decide +kernel
theorem dX11_text_78 : decode cX11_text 78 = .ok (.bipush 10, 2) := by decide +kernel
theorem dX11_text_80 : decode cX11_text 80 = .ok (.irem, 1) := by decide +kernel
theorem dX11_text_81 : decode cX11_text 81 = .ok (.aload_n 0, 1) := by decide +kernel
theorem dX11_text_82 : decode cX11_text 82 = .ok (.getfield 168, 3) := by decide +kernel
theorem dX11_text_85 : decode cX11_text 85 = .ok (.iload_n 2, 1) := by decide +kernel
theorem dX11_text_86 : decode cX11_text 86 = .ok (.aload_n 0, 1) := by decide +kernel
theorem dX11_text_87 : decode cX11_text 87 = .ok (.getfield 48, 3) := by decide +kernel
theorem dX11_text_90 : decode cX11_text 90 = .ok (.invokevirtual 275, 3) := by decide +kernel
theorem dX11_text_93 : decode cX11_text 93 = .ok (.invokespecial 279, 3) := by decide +kernel
theorem dX11_text_96 : decode cX11_text 96 = .ok (.aastore, 1) := by decide +kernel
theorem dX11_text_97 : decode cX11_text 97 = .ok (.aload_n 0, 1) := by decide +kernel
theorem dX11_text_98 : decode cX11_text 98 = .ok (.dup, 1) := by decide +kernel
theorem dX11_text_99 : decode cX11_text 99 = .ok (.getfield 267, 3) := by decide +kernel
theorem dX11_text_102 : decode cX11_text 102 = .ok (.iconst 1, 1) := by decide +kernel
theorem dX11_text_103 : decode cX11_text 103 = .ok (.iadd, 1) := by decide +kernel
theorem dX11_text_104 : decode cX11_text 104 = .ok (.putfield 267, 3) := by decide +kernel
theorem dX11_text_107 : decode cX11_text 107 = .ok (.aload_n 0, 1) := by decide +kernel
theorem dX11_text_108 : decode cX11_text 108 = .ok (.getfield 267, 3) := by decide +kernel
theorem dX11_text_111 : decode cX11_text 111 = .ok (.iconst 1, 1) := by decide +kernel
theorem dX11_text_112 : decode cX11_text 112 = .ok (.isub, 1) := by decide +kernel
theorem dX11_text_113 : decode cX11_text 113 = .ok (.ireturn, 1) := by decide +kernel
theorem dX11_inForce_0 : decode cX11_inForce 0 = .ok (.iload_n 1, 1) := by decide +kernel
theorem dX11_inForce_1 : decode cX11_inForce 1 = .ok (.invokestatic 264, 3) := by decide +kernel
theorem dX11_inForce_4 : decode cX11_inForce 4 = .ok (.ifCond .eq 17, 3) := by decide +kernel
theorem dX11_inForce_7 : decode cX11_inForce 7 = .ok (.iload_n 2, 1) := by decide +kernel
theorem dX11_inForce_8 : decode cX11_inForce 8 = .ok (.invokestatic 282, 3) := by decide +kernel
theorem dX11_inForce_11 : decode cX11_inForce 11 = .ok (.ifCond .eq 10, 3) := by decide +kernel
theorem dX11_inForce_14 : decode cX11_inForce 14 = .ok (.iload_n 3, 1) := by decide +kernel
theorem dX11_inForce_15 : decode cX11_inForce 15 = .ok (.invokestatic 282, 3) := by decide +kernel
theorem dX11_inForce_18 : decode cX11_inForce 18 = .ok (.ifCond .ne 5, 3) := by decide +kernel
theorem dX11_inForce_21 : decode cX11_inForce 21 = .ok (.iconst (-1), 1) := by decide +kernel
theorem dX11_inForce_22 : decode cX11_inForce 22 = .ok (.ireturn, 1) := by decide +kernel
theorem dX11_inForce_23 : decode cX11_inForce 23 = .ok (.aload_n 0, 1) := by decide +kernel
theorem dX11_inForce_24 : decode cX11_inForce 24 = .ok (.iload_n 1, 1) := by decide +kernel
theorem dX11_inForce_25 : decode cX11_inForce 25 = .ok (.bipush 10, 2) := by decide +kernel
theorem dX11_inForce_27 : decode cX11_inForce 27 = .ok (.idiv, 1) := by decide +kernel
theorem dX11_inForce_28 : decode cX11_inForce 28 = .ok (.iload_n 1, 1) := by decide +kernel
theorem dX11_inForce_29 : decode cX11_inForce 29 = .ok (.bipush 10, 2) := by decide +kernel
theorem dX11_inForce_31 : decode cX11_inForce 31 = .ok (.irem, 1) := by decide +kernel
theorem dX11_inForce_32 : decode cX11_inForce 32 = .ok (.iload_n 2, 1) := by decide +kernel
theorem dX11_inForce_33 : decode cX11_inForce 33 = .ok (.iload_n 3, 1) := by decide +kernel
theorem dX11_inForce_34 : decode cX11_inForce 34 = .ok (.invokevirtual 285, 3) := by decide +kernel
theorem dX11_inForce_37 : decode cX11_inForce 37 = .ok (.ireturn, 1) := by decide +kernel
theorem dX11_says_0 : decode cX11_says 0 = .ok (.iload_n 1, 1) := by decide +kernel
theorem dX11_says_1 : decode cX11_says 1 = .ok (.invokestatic 264, 3) := by decide +kernel
theorem dX11_says_4 : decode cX11_says 4 = .ok (.ifCond .ne 6, 3) := by decide +kernel
theorem dX11_says_7 : decode cX11_says 7 = .ok (.ldc 138, 2) := by decide +kernel
theorem dX11_says_9 : decode cX11_says 9 = .ok (.ireturn, 1) := by decide +kernel
theorem dX11_says_10 : decode cX11_says 10 = .ok (.iload_n 1, 1) := by decide +kernel
theorem dX11_says_11 : decode cX11_says 11 = .ok (.bipush 10, 2) := by decide +kernel
theorem dX11_says_13 : decode cX11_says 13 = .ok (.irem, 1) := by decide +kernel
theorem dX11_says_14 : decode cX11_says 14 = .ok (.istore_n 3, 1) := by decide +kernel
theorem dX11_says_15 : decode cX11_says 15 = .ok (.iload_n 3, 1) := by decide +kernel
theorem dX11_says_16 : decode cX11_says 16 = .ok (.iconst 2, 1) := by decide +kernel
theorem dX11_says_17 : decode cX11_says 17 = .ok (.if_icmp .ne 11, 3) := by decide +kernel
theorem dX11_says_20 : decode cX11_says 20 = .ok (.iload_n 2, 1) := by decide +kernel
theorem dX11_says_21 : decode cX11_says 21 = .ok (.iconst (-1), 1) := by decide +kernel
theorem dX11_says_22 : decode cX11_says 22 = .ok (.if_icmp .eq 22, 3) := by decide +kernel
theorem dX11_says_25 : decode cX11_says 25 = .ok (.goto 16, 3) := by decide +kernel
theorem dX11_says_28 : decode cX11_says 28 = .ok (.aload_n 0, 1) := by decide +kernel
theorem dX11_says_29 : decode cX11_says 29 = .ok (.getfield 28, 3) := by decide +kernel
theorem dX11_says_32 : decode cX11_says 32 = .ok (.iload_n 2, 1) := by decide +kernel
theorem dX11_says_33 : decode cX11_says 33 = .ok (.invokevirtual 135, 3) := by decide +kernel
theorem dX11_says_36 : decode cX11_says 36 = .ok (.bipush 7, 2) := by decide +kernel
theorem dX11_says_38 : decode cX11_says 38 = .ok (.if_icmp .eq 6, 3) := by decide +kernel
theorem dX11_says_41 : decode cX11_says 41 = .ok (.ldc 138, 2) := by decide +kernel
theorem dX11_says_43 : decode cX11_says 43 = .ok (.ireturn, 1) := by decide +kernel
theorem dX11_says_44 : decode cX11_says 44 = .ok (.aload_n 0, 1) := by decide +kernel
theorem dX11_says_45 : decode cX11_says 45 = .ok (.aload_n 0, 1) := by decide +kernel
theorem dX11_says_46 : decode cX11_says 46 = .ok (.iload_n 1, 1) := by decide +kernel
theorem dX11_says_47 : decode cX11_says 47 = .ok (.bipush 10, 2) := by decide +kernel
theorem dX11_says_49 : decode cX11_says 49 = .ok (.idiv, 1) := by decide +kernel
theorem dX11_says_50 : decode cX11_says 50 = .ok (.iload_n 3, 1) := by decide +kernel
theorem dX11_says_51 : decode cX11_says 51 = .ok (.aload_n 0, 1) := by decide +kernel
theorem dX11_says_52 : decode cX11_says 52 = .ok (.getfield 168, 3) := by decide +kernel
theorem dX11_says_55 : decode cX11_says 55 = .ok (.aload_n 0, 1) := by decide +kernel
theorem dX11_says_56 : decode cX11_says 56 = .ok (.getfield 168, 3) := by decide +kernel
theorem dX11_says_59 : decode cX11_says 59 = .ok (.invokevirtual 285, 3) := by decide +kernel
theorem dX11_says_62 : decode cX11_says 62 = .ok (.iload_n 3, 1) := by decide +kernel
theorem dX11_says_63 : decode cX11_says 63 = .ok (.iload_n 2, 1) := by decide +kernel
theorem dX11_says_64 : decode cX11_says 64 = .ok (.invokevirtual 289, 3) := by decide +kernel
theorem dX11_says_67 : decode cX11_says 67 = .ok (.ireturn, 1) := by decide +kernel
theorem dX11_hours_0 : decode cX11_hours 0 = .ok (.iload_n 1, 1) := by decide +kernel
theorem dX11_hours_1 : decode cX11_hours 1 = .ok (.iconst 1, 1) := by decide +kernel
theorem dX11_hours_2 : decode cX11_hours 2 = .ok (.if_icmp .lt 21, 3) := by decide +kernel
theorem dX11_hours_5 : decode cX11_hours 5 = .ok (.iload_n 1, 1) := by decide +kernel
theorem dX11_hours_6 : decode cX11_hours 6 = .ok (.bipush 48, 2) := by decide +kernel
theorem dX11_hours_8 : decode cX11_hours 8 = .ok (.if_icmp .gt 15, 3) := by decide +kernel
theorem dX11_hours_11 : decode cX11_hours 11 = .ok (.aload_n 0, 1) := by decide +kernel
theorem dX11_hours_12 : decode cX11_hours 12 = .ok (.getfield 168, 3) := by decide +kernel
theorem dX11_hours_15 : decode cX11_hours 15 = .ok (.iload_n 1, 1) := by decide +kernel
theorem dX11_hours_16 : decode cX11_hours 16 = .ok (.iadd, 1) := by decide +kernel
theorem dX11_hours_17 : decode cX11_hours 17 = .ok (.sipush 1699, 3) := by decide +kernel
theorem dX11_hours_20 : decode cX11_hours 20 = .ok (.if_icmp .le 5, 3) := by decide +kernel
theorem dX11_hours_23 : decode cX11_hours 23 = .ok (.iconst (-1), 1) := by decide +kernel
theorem dX11_hours_24 : decode cX11_hours 24 = .ok (.ireturn, 1) := by decide +kernel
theorem dX11_hours_25 : decode cX11_hours 25 = .ok (.iconst 0, 1) := by decide +kernel
theorem dX11_hours_26 : decode cX11_hours 26 = .ok (.istore_n 2, 1) := by decide +kernel
theorem dX11_hours_27 : decode cX11_hours 27 = .ok (.iload_n 2, 1) := by decide +kernel
theorem dX11_hours_28 : decode cX11_hours 28 = .ok (.iload_n 1, 1) := by decide +kernel
theorem dX11_hours_29 : decode cX11_hours 29 = .ok (.if_icmp .ge 13, 3) := by decide +kernel
theorem dX11_hours_32 : decode cX11_hours 32 = .ok (.aload_n 0, 1) := by decide +kernel
theorem dX11_hours_33 : decode cX11_hours 33 = .ok (.invokevirtual 292, 3) := by decide +kernel
theorem dX11_hours_36 : decode cX11_hours 36 = .ok (.iinc 2 1, 3) := by decide +kernel
theorem dX11_hours_39 : decode cX11_hours 39 = .ok (.goto (-12), 3) := by decide +kernel
theorem dX11_hours_42 : decode cX11_hours 42 = .ok (.aload_n 0, 1) := by decide +kernel
theorem dX11_hours_43 : decode cX11_hours 43 = .ok (.getfield 168, 3) := by decide +kernel
theorem dX11_hours_46 : decode cX11_hours 46 = .ok (.ireturn, 1) := by decide +kernel
theorem dX11_spoons_0 : decode cX11_spoons 0 = .ok (.iload_n 1, 1) := by decide +kernel
theorem dX11_spoons_1 : decode cX11_spoons 1 = .ok (.ifCond .lt 10, 3) := by decide +kernel
theorem dX11_spoons_4 : decode cX11_spoons 4 = .ok (.iload_n 1, 1) := by decide +kernel
theorem dX11_spoons_5 : decode cX11_spoons 5 = .ok (.sipush 9999, 3) := by decide +kernel
theorem dX11_spoons_8 : decode cX11_spoons 8 = .ok (.if_icmp .le 5, 3) := by decide +kernel
theorem dX11_spoons_11 : decode cX11_spoons 11 = .ok (.iconst (-1), 1) := by decide +kernel
theorem dX11_spoons_12 : decode cX11_spoons 12 = .ok (.ireturn, 1) := by decide +kernel
theorem dX11_spoons_13 : decode cX11_spoons 13 = .ok (.aload_n 0, 1) := by decide +kernel
theorem dX11_spoons_14 : decode cX11_spoons 14 = .ok (.getfield 76, 3) := by decide +kernel
theorem dX11_spoons_17 : decode cX11_spoons 17 = .ok (.getfield 295, 3) := by decide +kernel
theorem dX11_spoons_20 : decode cX11_spoons 20 = .ok (.istore_n 2, 1) := by decide +kernel
theorem dX11_spoons_21 : decode cX11_spoons 21 = .ok (.aload_n 0, 1) := by decide +kernel
theorem dX11_spoons_22 : decode cX11_spoons 22 = .ok (.getfield 76, 3) := by decide +kernel
theorem dX11_spoons_25 : decode cX11_spoons 25 = .ok (.iload_n 1, 1) := by decide +kernel
theorem dX11_spoons_26 : decode cX11_spoons 26 = .ok (.putfield 295, 3) := by decide +kernel
theorem dX11_spoons_29 : decode cX11_spoons 29 = .ok (.iload_n 2, 1) := by decide +kernel
theorem dX11_spoons_30 : decode cX11_spoons 30 = .ok (.ireturn, 1) := by decide +kernel
theorem dX11_move_0 : decode cX11_move 0 = .ok (.iload_n 1, 1) := by decide +kernel
theorem dX11_move_1 : decode cX11_move 1 = .ok (.invokestatic 101, 3) := by decide +kernel
theorem dX11_move_4 : decode cX11_move 4 = .ok (.istore_n 3, 1) := by decide +kernel
theorem dX11_move_5 : decode cX11_move 5 = .ok (.iload_n 3, 1) := by decide +kernel
theorem dX11_move_6 : decode cX11_move 6 = .ok (.ifCond .lt 18, 3) := by decide +kernel
theorem dX11_move_9 : decode cX11_move 9 = .ok (.iload_n 2, 1) := by decide +kernel
theorem dX11_move_10 : decode cX11_move 10 = .ok (.aload_n 0, 1) := by decide +kernel
theorem dX11_move_11 : decode cX11_move 11 = .ok (.getfield 168, 3) := by decide +kernel
theorem dX11_move_14 : decode cX11_move 14 = .ok (.if_icmp .le 10, 3) := by decide +kernel
theorem dX11_move_17 : decode cX11_move 17 = .ok (.iload_n 2, 1) := by decide +kernel
theorem dX11_move_18 : decode cX11_move 18 = .ok (.sipush 1699, 3) := by decide +kernel
theorem dX11_move_21 : decode cX11_move 21 = .ok (.if_icmp .le 5, 3) := by decide +kernel
theorem dX11_move_24 : decode cX11_move 24 = .ok (.iconst (-1), 1) := by decide +kernel
theorem dX11_move_25 : decode cX11_move 25 = .ok (.ireturn, 1) := by decide +kernel
theorem dX11_move_26 : decode cX11_move 26 = .ok (.aload_n 0, 1) := by decide +kernel
theorem dX11_move_27 : decode cX11_move 27 = .ok (.getfield 10, 3) := by decide +kernel
theorem dX11_move_30 : decode cX11_move 30 = .ok (.iload_n 1, 1) := by decide +kernel
theorem dX11_move_31 : decode cX11_move 31 = .ok (.iload_n 2, 1) := by decide +kernel
theorem dX11_move_32 : decode cX11_move 32 = .ok (.invokevirtual 298, 3) := by decide +kernel
theorem dX11_move_35 : decode cX11_move 35 = .ok (.ireturn, 1) := by decide +kernel
theorem dX11_last_0 : decode cX11_last 0 = .ok (.iload_n 1, 1) := by decide +kernel
theorem dX11_last_1 : decode cX11_last 1 = .ok (.ifCond .lt 20, 3) := by decide +kernel
theorem dX11_last_4 : decode cX11_last 4 = .ok (.iload_n 1, 1) := by decide +kernel
theorem dX11_last_5 : decode cX11_last 5 = .ok (.sipush 999, 3) := by decide +kernel
theorem dX11_last_8 : decode cX11_last 8 = .ok (.if_icmp .gt 13, 3) := by decide +kernel
theorem dX11_last_11 : decode cX11_last 11 = .ok (.iload_n 2, 1) := by decide +kernel
theorem dX11_last_12 : decode cX11_last 12 = .ok (.ifCond .lt 9, 3) := by decide +kernel
theorem dX11_last_15 : decode cX11_last 15 = .ok (.iload_n 2, 1) := by decide +kernel
theorem dX11_last_16 : decode cX11_last 16 = .ok (.bipush 9, 2) := by decide +kernel
theorem dX11_last_18 : decode cX11_last 18 = .ok (.if_icmp .le 5, 3) := by decide +kernel
theorem dX11_last_21 : decode cX11_last 21 = .ok (.iconst (-1), 1) := by decide +kernel
theorem dX11_last_22 : decode cX11_last 22 = .ok (.ireturn, 1) := by decide +kernel
theorem dX11_last_23 : decode cX11_last 23 = .ok (.aload_n 0, 1) := by decide +kernel
theorem dX11_last_24 : decode cX11_last 24 = .ok (.getfield 19, 3) := by decide +kernel
theorem dX11_last_27 : decode cX11_last 27 = .ok (.getfield 301, 3) := by decide +kernel
theorem dX11_last_30 : decode cX11_last 30 = .ok (.ifCond .ne 6, 3) := by decide +kernel
theorem dX11_last_33 : decode cX11_last 33 = .ok (.bipush (-2), 2) := by decide +kernel
theorem dX11_last_35 : decode cX11_last 35 = .ok (.ireturn, 1) := by decide +kernel
theorem dX11_last_36 : decode cX11_last 36 = .ok (.aload_n 0, 1) := by decide +kernel
theorem dX11_last_37 : decode cX11_last 37 = .ok (.getfield 19, 3) := by decide +kernel
theorem dX11_last_40 : decode cX11_last 40 = .ok (.iload_n 1, 1) := by decide +kernel
theorem dX11_last_41 : decode cX11_last 41 = .ok (.iload_n 2, 1) := by decide +kernel
theorem dX11_last_42 : decode cX11_last 42 = .ok (.aload_n 0, 1) := by decide +kernel
theorem dX11_last_43 : decode cX11_last 43 = .ok (.getfield 76, 3) := by decide +kernel
theorem dX11_last_46 : decode cX11_last 46 = .ok (.getfield 295, 3) := by decide +kernel
theorem dX11_last_49 : decode cX11_last 49 = .ok (.invokevirtual 304, 3) := by decide +kernel
theorem dX11_last_52 : decode cX11_last 52 = .ok (.ireturn, 1) := by decide +kernel
theorem dX11_best_0 : decode cX11_best 0 = .ok (.iload_n 1, 1) := by decide +kernel
theorem dX11_best_1 : decode cX11_best 1 = .ok (.ifCond .lt 10, 3) := by decide +kernel
theorem dX11_best_4 : decode cX11_best 4 = .ok (.iload_n 1, 1) := by decide +kernel
theorem dX11_best_5 : decode cX11_best 5 = .ok (.sipush 999, 3) := by decide +kernel
theorem dX11_best_8 : decode cX11_best 8 = .ok (.if_icmp .le 5, 3) := by decide +kernel
theorem dX11_best_11 : decode cX11_best 11 = .ok (.iconst (-1), 1) := by decide +kernel
theorem dX11_best_12 : decode cX11_best 12 = .ok (.ireturn, 1) := by decide +kernel
theorem dX11_best_13 : decode cX11_best 13 = .ok (.aload_n 0, 1) := by decide +kernel
theorem dX11_best_14 : decode cX11_best 14 = .ok (.getfield 19, 3) := by decide +kernel
theorem dX11_best_17 : decode cX11_best 17 = .ok (.getfield 301, 3) := by decide +kernel
theorem dX11_best_20 : decode cX11_best 20 = .ok (.ifCond .ne 6, 3) := by decide +kernel
theorem dX11_best_23 : decode cX11_best 23 = .ok (.bipush (-2), 2) := by decide +kernel
theorem dX11_best_25 : decode cX11_best 25 = .ok (.ireturn, 1) := by decide +kernel
theorem dX11_best_26 : decode cX11_best 26 = .ok (.iconst 0, 1) := by decide +kernel
theorem dX11_best_27 : decode cX11_best 27 = .ok (.istore_n 2, 1) := by decide +kernel
theorem dX11_best_28 : decode cX11_best 28 = .ok (.iconst (-1), 1) := by decide +kernel
theorem dX11_best_29 : decode cX11_best 29 = .ok (.istore_n 3, 1) := by decide +kernel
theorem dX11_best_30 : decode cX11_best 30 = .ok (.iconst 0, 1) := by decide +kernel
theorem dX11_best_31 : decode cX11_best 31 = .ok (.istore 4, 2) := by decide +kernel
theorem dX11_best_33 : decode cX11_best 33 = .ok (.iload 4, 2) := by decide +kernel
theorem dX11_best_35 : decode cX11_best 35 = .ok (.bipush 9, 2) := by decide +kernel
theorem dX11_best_37 : decode cX11_best 37 = .ok (.if_icmp .gt 40, 3) := by decide +kernel
theorem dX11_best_40 : decode cX11_best 40 = .ok (.aload_n 0, 1) := by decide +kernel
theorem dX11_best_41 : decode cX11_best 41 = .ok (.getfield 19, 3) := by decide +kernel
theorem dX11_best_44 : decode cX11_best 44 = .ok (.iload_n 1, 1) := by decide +kernel
theorem dX11_best_45 : decode cX11_best 45 = .ok (.iload 4, 2) := by decide +kernel
theorem dX11_best_47 : decode cX11_best 47 = .ok (.aload_n 0, 1) := by decide +kernel
theorem dX11_best_48 : decode cX11_best 48 = .ok (.getfield 76, 3) := by decide +kernel
theorem dX11_best_51 : decode cX11_best 51 = .ok (.getfield 295, 3) := by decide +kernel
theorem dX11_best_54 : decode cX11_best 54 = .ok (.invokevirtual 304, 3) := by decide +kernel
theorem dX11_best_57 : decode cX11_best 57 = .ok (.istore 5, 2) := by decide +kernel
theorem dX11_best_59 : decode cX11_best 59 = .ok (.iload 5, 2) := by decide +kernel
theorem dX11_best_61 : decode cX11_best 61 = .ok (.iload_n 3, 1) := by decide +kernel
theorem dX11_best_62 : decode cX11_best 62 = .ok (.if_icmp .le 9, 3) := by decide +kernel
theorem dX11_best_65 : decode cX11_best 65 = .ok (.iload 5, 2) := by decide +kernel
theorem dX11_best_67 : decode cX11_best 67 = .ok (.istore_n 3, 1) := by decide +kernel
theorem dX11_best_68 : decode cX11_best 68 = .ok (.iload 4, 2) := by decide +kernel
theorem dX11_best_70 : decode cX11_best 70 = .ok (.istore_n 2, 1) := by decide +kernel
theorem dX11_best_71 : decode cX11_best 71 = .ok (.iinc 4 1, 3) := by decide +kernel
theorem dX11_best_74 : decode cX11_best 74 = .ok (.goto (-41), 3) := by decide +kernel
theorem dX11_best_77 : decode cX11_best 77 = .ok (.iload_n 2, 1) := by decide +kernel
theorem dX11_best_78 : decode cX11_best 78 = .ok (.ireturn, 1) := by decide +kernel
theorem dX11_down_0 : decode cX11_down 0 = .ok (.aload_n 0, 1) := by decide +kernel
theorem dX11_down_1 : decode cX11_down 1 = .ok (.getfield 28, 3) := by decide +kernel
theorem dX11_down_4 : decode cX11_down 4 = .ok (.iload_n 1, 1) := by decide +kernel
theorem dX11_down_5 : decode cX11_down 5 = .ok (.invokevirtual 139, 3) := by decide +kernel
theorem dX11_down_8 : decode cX11_down 8 = .ok (.astore 4, 2) := by decide +kernel
theorem dX11_down_10 : decode cX11_down 10 = .ok (.aload 4, 2) := by decide +kernel
theorem dX11_down_12 : decode cX11_down 12 = .ok (.ifnull 33, 3) := by decide +kernel
theorem dX11_down_15 : decode cX11_down 15 = .ok (.aload_n 0, 1) := by decide +kernel
theorem dX11_down_16 : decode cX11_down 16 = .ok (.getfield 28, 3) := by decide +kernel
theorem dX11_down_19 : decode cX11_down 19 = .ok (.iload_n 1, 1) := by decide +kernel
theorem dX11_down_20 : decode cX11_down 20 = .ok (.invokevirtual 135, 3) := by decide +kernel
theorem dX11_down_23 : decode cX11_down 23 = .ok (.iconst 3, 1) := by decide +kernel
theorem dX11_down_24 : decode cX11_down 24 = .ok (.if_icmp .ne 21, 3) := by decide +kernel
theorem dX11_down_27 : decode cX11_down 27 = .ok (.iload_n 2, 1) := by decide +kernel
theorem dX11_down_28 : decode cX11_down 28 = .ok (.invokestatic 307, 3) := by decide +kernel
theorem dX11_down_31 : decode cX11_down 31 = .ok (.ifCond .eq 14, 3) := by decide +kernel
theorem dX11_down_34 : decode cX11_down 34 = .ok (.iload_n 3, 1) := by decide +kernel
theorem dX11_down_35 : decode cX11_down 35 = .ok (.iconst 1, 1) := by decide +kernel
theorem dX11_down_36 : decode cX11_down 36 = .ok (.if_icmp .lt 9, 3) := by decide +kernel
theorem dX11_down_39 : decode cX11_down 39 = .ok (.iload_n 3, 1) := by decide +kernel
theorem dX11_down_40 : decode cX11_down 40 = .ok (.bipush 9, 2) := by decide +kernel
theorem dX11_down_42 : decode cX11_down 42 = .ok (.if_icmp .le 5, 3) := by decide +kernel
theorem dX11_down_45 : decode cX11_down 45 = .ok (.iconst (-1), 1) := by decide +kernel
theorem dX11_down_46 : decode cX11_down 46 = .ok (.ireturn, 1) := by decide +kernel
theorem dX11_down_47 : decode cX11_down 47 = .ok (.aload 4, 2) := by decide +kernel
theorem dX11_down_49 : decode cX11_down 49 = .ok (.getfield 174, 3) := by decide +kernel
theorem dX11_down_52 : decode cX11_down 52 = .ok (.ifCond .ne 6, 3) := by decide +kernel
theorem dX11_down_55 : decode cX11_down 55 = .ok (.bipush (-2), 2) := by decide +kernel
theorem dX11_down_57 : decode cX11_down 57 = .ok (.ireturn, 1) := by decide +kernel
theorem dX11_down_58 : decode cX11_down 58 = .ok (.aload_n 0, 1) := by decide +kernel
theorem dX11_down_59 : decode cX11_down 59 = .ok (.getfield 76, 3) := by decide +kernel
theorem dX11_down_62 : decode cX11_down 62 = .ok (.getfield 310, 3) := by decide +kernel
theorem dX11_down_65 : decode cX11_down 65 = .ok (.bipush 40, 2) := by decide +kernel
theorem dX11_down_67 : decode cX11_down 67 = .ok (.if_icmp .lt 6, 3) := by decide +kernel
theorem dX11_down_70 : decode cX11_down 70 = .ok (.bipush (-3), 2) := by decide +kernel
theorem dX11_down_72 : decode cX11_down 72 = .ok (.ireturn, 1) := by decide +kernel
theorem dX11_down_73 : decode cX11_down 73 = .ok (.aload 4, 2) := by decide +kernel
theorem dX11_down_75 : decode cX11_down 75 = .ok (.aload_n 0, 1) := by decide +kernel
theorem dX11_down_76 : decode cX11_down 76 = .ok (.getfield 168, 3) := by decide +kernel
theorem dX11_down_79 : decode cX11_down 79 = .ok (.aload 4, 2) := by decide +kernel
theorem dX11_down_81 : decode cX11_down 81 = .ok (.getfield 313, 3) := by decide +kernel
theorem dX11_down_84 : decode cX11_down 84 = .ok (.invokestatic 247, 3) := by decide +kernel
theorem dX11_down_87 : decode cX11_down 87 = .ok (.iload_n 3, 1) := by decide +kernel
theorem dX11_down_88 : decode cX11_down 88 = .ok (.iadd, 1) := by decide +kernel
theorem dX11_down_89 : decode cX11_down 89 = .ok (.putfield 313, 3) := by decide +kernel
theorem dX11_down_92 : decode cX11_down 92 = .ok (.aload_n 0, 1) := by decide +kernel
theorem dX11_down_93 : decode cX11_down 93 = .ok (.getfield 76, 3) := by decide +kernel
theorem dX11_down_96 : decode cX11_down 96 = .ok (.iload_n 2, 1) := by decide +kernel
theorem dX11_down_97 : decode cX11_down 97 = .ok (.aload 4, 2) := by decide +kernel
theorem dX11_down_99 : decode cX11_down 99 = .ok (.getfield 313, 3) := by decide +kernel
theorem dX11_down_102 : decode cX11_down 102 = .ok (.invokevirtual 316, 3) := by decide +kernel
theorem dX11_down_105 : decode cX11_down 105 = .ok (.aload 4, 2) := by decide +kernel
theorem dX11_down_107 : decode cX11_down 107 = .ok (.getfield 313, 3) := by decide +kernel
theorem dX11_down_110 : decode cX11_down 110 = .ok (.ireturn, 1) := by decide +kernel
theorem dX11_below_0 : decode cX11_below 0 = .ok (.iload_n 1, 1) := by decide +kernel
theorem dX11_below_1 : decode cX11_below 1 = .ok (.ifCond .lt 9, 3) := by decide +kernel
theorem dX11_below_4 : decode cX11_below 4 = .ok (.iload_n 1, 1) := by decide +kernel
theorem dX11_below_5 : decode cX11_below 5 = .ok (.bipush 9, 2) := by decide +kernel
theorem dX11_below_7 : decode cX11_below 7 = .ok (.if_icmp .le 5, 3) := by decide +kernel
theorem dX11_below_10 : decode cX11_below 10 = .ok (.iconst (-1), 1) := by decide +kernel
theorem dX11_below_11 : decode cX11_below 11 = .ok (.ireturn, 1) := by decide +kernel
theorem dX11_below_12 : decode cX11_below 12 = .ok (.iload_n 1, 1) := by decide +kernel
theorem dX11_below_13 : decode cX11_below 13 = .ok (.ifCond .ne 13, 3) := by decide +kernel
theorem dX11_below_16 : decode cX11_below 16 = .ok (.aload_n 0, 1) := by decide +kernel
theorem dX11_below_17 : decode cX11_below 17 = .ok (.getfield 76, 3) := by decide +kernel
theorem dX11_below_20 : decode cX11_below 20 = .ok (.getfield 295, 3) := by decide +kernel
theorem dX11_below_23 : decode cX11_below 23 = .ok (.goto 12, 3) := by decide +kernel
theorem dX11_below_26 : decode cX11_below 26 = .ok (.aload_n 0, 1) := by decide +kernel
theorem dX11_below_27 : decode cX11_below 27 = .ok (.getfield 76, 3) := by decide +kernel
theorem dX11_below_30 : decode cX11_below 30 = .ok (.getfield 320, 3) := by decide +kernel
theorem dX11_below_33 : decode cX11_below 33 = .ok (.iload_n 1, 1) := by decide +kernel
theorem dX11_below_34 : decode cX11_below 34 = .ok (.iaload, 1) := by decide +kernel
theorem dX11_below_35 : decode cX11_below 35 = .ok (.ireturn, 1) := by decide +kernel
theorem dX11_need_0 : decode cX11_need 0 = .ok (.iload_n 1, 1) := by decide +kernel
theorem dX11_need_1 : decode cX11_need 1 = .ok (.bipush 100, 2) := by decide +kernel
theorem dX11_need_3 : decode cX11_need 3 = .ok (.if_icmp .lt 27, 3) := by decide +kernel
theorem dX11_need_6 : decode cX11_need 6 = .ok (.iload_n 1, 1) := by decide +kernel
theorem dX11_need_7 : decode cX11_need 7 = .ok (.sipush 999, 3) := by decide +kernel
theorem dX11_need_10 : decode cX11_need 10 = .ok (.if_icmp .gt 20, 3) := by decide +kernel
theorem dX11_need_13 : decode cX11_need 13 = .ok (.iload_n 1, 1) := by decide +kernel
theorem dX11_need_14 : decode cX11_need 14 = .ok (.bipush 100, 2) := by decide +kernel
theorem dX11_need_16 : decode cX11_need 16 = .ok (.irem, 1) := by decide +kernel
theorem dX11_need_17 : decode cX11_need 17 = .ok (.ifCond .eq 13, 3) := by decide +kernel
theorem dX11_need_20 : decode cX11_need 20 = .ok (.iload_n 2, 1) := by decide +kernel
theorem dX11_need_21 : decode cX11_need 21 = .ok (.ifCond .lt 9, 3) := by decide +kernel
theorem dX11_need_24 : decode cX11_need 24 = .ok (.iload_n 2, 1) := by decide +kernel
theorem dX11_need_25 : decode cX11_need 25 = .ok (.bipush 99, 2) := by decide +kernel
theorem dX11_need_27 : decode cX11_need 27 = .ok (.if_icmp .le 5, 3) := by decide +kernel
theorem dX11_need_30 : decode cX11_need 30 = .ok (.iconst (-1), 1) := by decide +kernel
theorem dX11_need_31 : decode cX11_need 31 = .ok (.ireturn, 1) := by decide +kernel
theorem dX11_need_32 : decode cX11_need 32 = .ok (.aload_n 0, 1) := by decide +kernel
theorem dX11_need_33 : decode cX11_need 33 = .ok (.getfield 83, 3) := by decide +kernel
theorem dX11_need_36 : decode cX11_need 36 = .ok (.iload_n 1, 1) := by decide +kernel
theorem dX11_need_37 : decode cX11_need 37 = .ok (.bipush 100, 2) := by decide +kernel
theorem dX11_need_39 : decode cX11_need 39 = .ok (.idiv, 1) := by decide +kernel
theorem dX11_need_40 : decode cX11_need 40 = .ok (.iload_n 1, 1) := by decide +kernel
theorem dX11_need_41 : decode cX11_need 41 = .ok (.bipush 100, 2) := by decide +kernel
theorem dX11_need_43 : decode cX11_need 43 = .ok (.irem, 1) := by decide +kernel
theorem dX11_need_44 : decode cX11_need 44 = .ok (.iload_n 2, 1) := by decide +kernel
theorem dX11_need_45 : decode cX11_need 45 = .ok (.invokevirtual 323, 3) := by decide +kernel
theorem dX11_need_48 : decode cX11_need 48 = .ok (.ireturn, 1) := by decide +kernel
theorem dX11_order_0 : decode cX11_order 0 = .ok (.aload_n 0, 1) := by decide +kernel
theorem dX11_order_1 : decode cX11_order 1 = .ok (.getfield 83, 3) := by decide +kernel
theorem dX11_order_4 : decode cX11_order 4 = .ok (.getfield 326, 3) := by decide +kernel
theorem dX11_order_7 : decode cX11_order 7 = .ok (.ifCond .ne 7, 3) := by decide +kernel
theorem dX11_order_10 : decode cX11_order 10 = .ok (.iconst (-1), 1) := by decide +kernel
theorem dX11_order_11 : decode cX11_order 11 = .ok (.goto 10, 3) := by decide +kernel
theorem dX11_order_14 : decode cX11_order 14 = .ok (.aload_n 0, 1) := by decide +kernel
theorem dX11_order_15 : decode cX11_order 15 = .ok (.getfield 83, 3) := by decide +kernel
theorem dX11_order_18 : decode cX11_order 18 = .ok (.invokevirtual 329, 3) := by decide +kernel
theorem dX11_order_21 : decode cX11_order 21 = .ok (.ireturn, 1) := by decide +kernel
theorem dX11_ordered_0 : decode cX11_ordered 0 = .ok (.iload_n 1, 1) := by decide +kernel
theorem dX11_ordered_1 : decode cX11_ordered 1 = .ok (.ifCond .lt 14, 3) := by decide +kernel
theorem dX11_ordered_4 : decode cX11_ordered 4 = .ok (.iload_n 1, 1) := by decide +kernel
theorem dX11_ordered_5 : decode cX11_ordered 5 = .ok (.aload_n 0, 1) := by decide +kernel
theorem dX11_ordered_6 : decode cX11_ordered 6 = .ok (.getfield 83, 3) := by decide +kernel
theorem dX11_ordered_9 : decode cX11_ordered 9 = .ok (.getfield 332, 3) := by decide +kernel
theorem dX11_ordered_12 : decode cX11_ordered 12 = .ok (.if_icmp .lt 7, 3) := by decide +kernel
theorem dX11_ordered_15 : decode cX11_ordered 15 = .ok (.iconst (-1), 1) := by decide +kernel
theorem dX11_ordered_16 : decode cX11_ordered 16 = .ok (.goto 12, 3) := by decide +kernel
theorem dX11_ordered_19 : decode cX11_ordered 19 = .ok (.aload_n 0, 1) := by decide +kernel
theorem dX11_ordered_20 : decode cX11_ordered 20 = .ok (.getfield 83, 3) := by decide +kernel
theorem dX11_ordered_23 : decode cX11_ordered 23 = .ok (.getfield 335, 3) := by decide +kernel
theorem dX11_ordered_26 : decode cX11_ordered 26 = .ok (.iload_n 1, 1) := by decide +kernel
theorem dX11_ordered_27 : decode cX11_ordered 27 = .ok (.iaload, 1) := by decide +kernel
theorem dX11_ordered_28 : decode cX11_ordered 28 = .ok (.ireturn, 1) := by decide +kernel
theorem dX11_watch_0 : decode cX11_watch 0 = .ok (.iload_n 1, 1) := by decide +kernel
theorem dX11_watch_1 : decode cX11_watch 1 = .ok (.iconst 1, 1) := by decide +kernel
theorem dX11_watch_2 : decode cX11_watch 2 = .ok (.if_icmp .lt 18, 3) := by decide +kernel
theorem dX11_watch_5 : decode cX11_watch 5 = .ok (.iload_n 1, 1) := by decide +kernel
theorem dX11_watch_6 : decode cX11_watch 6 = .ok (.iconst 3, 1) := by decide +kernel
theorem dX11_watch_7 : decode cX11_watch 7 = .ok (.if_icmp .gt 13, 3) := by decide +kernel
theorem dX11_watch_10 : decode cX11_watch 10 = .ok (.iload_n 2, 1) := by decide +kernel
theorem dX11_watch_11 : decode cX11_watch 11 = .ok (.ifCond .lt 9, 3) := by decide +kernel
theorem dX11_watch_14 : decode cX11_watch 14 = .ok (.iload_n 2, 1) := by decide +kernel
theorem dX11_watch_15 : decode cX11_watch 15 = .ok (.bipush 9, 2) := by decide +kernel
theorem dX11_watch_17 : decode cX11_watch 17 = .ok (.if_icmp .le 5, 3) := by decide +kernel
theorem dX11_watch_20 : decode cX11_watch 20 = .ok (.iconst (-1), 1) := by decide +kernel
theorem dX11_watch_21 : decode cX11_watch 21 = .ok (.ireturn, 1) := by decide +kernel
theorem dX11_watch_22 : decode cX11_watch 22 = .ok (.aload_n 0, 1) := by decide +kernel
theorem dX11_watch_23 : decode cX11_watch 23 = .ok (.getfield 19, 3) := by decide +kernel
theorem dX11_watch_26 : decode cX11_watch 26 = .ok (.iload_n 1, 1) := by decide +kernel
theorem dX11_watch_27 : decode cX11_watch 27 = .ok (.iload_n 2, 1) := by decide +kernel
theorem dX11_watch_28 : decode cX11_watch 28 = .ok (.invokevirtual 338, 3) := by decide +kernel
theorem dX11_watch_31 : decode cX11_watch 31 = .ok (.ireturn, 1) := by decide +kernel
theorem dX11_watched_0 : decode cX11_watched 0 = .ok (.iload_n 1, 1) := by decide +kernel
theorem dX11_watched_1 : decode cX11_watched 1 = .ok (.ifCond .lt 23, 3) := by decide +kernel
theorem dX11_watched_4 : decode cX11_watched 4 = .ok (.iload_n 1, 1) := by decide +kernel
theorem dX11_watched_5 : decode cX11_watched 5 = .ok (.iconst 2, 1) := by decide +kernel
theorem dX11_watched_6 : decode cX11_watched 6 = .ok (.if_icmp .gt 18, 3) := by decide +kernel
theorem dX11_watched_9 : decode cX11_watched 9 = .ok (.iload_n 2, 1) := by decide +kernel
theorem dX11_watched_10 : decode cX11_watched 10 = .ok (.ifCond .lt 14, 3) := by decide +kernel
theorem dX11_watched_13 : decode cX11_watched 13 = .ok (.iload_n 2, 1) := by decide +kernel
theorem dX11_watched_14 : decode cX11_watched 14 = .ok (.aload_n 0, 1) := by decide +kernel
theorem dX11_watched_15 : decode cX11_watched 15 = .ok (.getfield 19, 3) := by decide +kernel
theorem dX11_watched_18 : decode cX11_watched 18 = .ok (.getfield 341, 3) := by decide +kernel
theorem dX11_watched_21 : decode cX11_watched 21 = .ok (.if_icmp .lt 5, 3) := by decide +kernel
theorem dX11_watched_24 : decode cX11_watched 24 = .ok (.iconst (-1), 1) := by decide +kernel
theorem dX11_watched_25 : decode cX11_watched 25 = .ok (.ireturn, 1) := by decide +kernel
theorem dX11_watched_26 : decode cX11_watched 26 = .ok (.aload_n 0, 1) := by decide +kernel
theorem dX11_watched_27 : decode cX11_watched 27 = .ok (.getfield 19, 3) := by decide +kernel
theorem dX11_watched_30 : decode cX11_watched 30 = .ok (.getfield 344, 3) := by decide +kernel
theorem dX11_watched_33 : decode cX11_watched 33 = .ok (.iload_n 1, 1) := by decide +kernel
theorem dX11_watched_34 : decode cX11_watched 34 = .ok (.aload_n 0, 1) := by decide +kernel
theorem dX11_watched_35 : decode cX11_watched 35 = .ok (.getfield 19, 3) := by decide +kernel
theorem dX11_watched_38 : decode cX11_watched 38 = .ok (.getfield 341, 3) := by decide +kernel
theorem dX11_watched_41 : decode cX11_watched 41 = .ok (.imul, 1) := by decide +kernel
theorem dX11_watched_42 : decode cX11_watched 42 = .ok (.iload_n 2, 1) := by decide +kernel
theorem dX11_watched_43 : decode cX11_watched 43 = .ok (.iadd, 1) := by decide +kernel
theorem dX11_watched_44 : decode cX11_watched 44 = .ok (.iaload, 1) := by decide +kernel
theorem dX11_watched_45 : decode cX11_watched 45 = .ok (.ireturn, 1) := by decide +kernel
theorem dX11_aim_0 : decode cX11_aim 0 = .ok (.iload_n 1, 1) := by decide +kernel
theorem dX11_aim_1 : decode cX11_aim 1 = .ok (.ifCond .lt 19, 3) := by decide +kernel
theorem dX11_aim_4 : decode cX11_aim 4 = .ok (.iload_n 1, 1) := by decide +kernel
theorem dX11_aim_5 : decode cX11_aim 5 = .ok (.bipush 32, 2) := by decide +kernel
theorem dX11_aim_7 : decode cX11_aim 7 = .ok (.if_icmp .ge 13, 3) := by decide +kernel
theorem dX11_aim_10 : decode cX11_aim 10 = .ok (.iload_n 2, 1) := by decide +kernel
theorem dX11_aim_11 : decode cX11_aim 11 = .ok (.ifCond .lt 9, 3) := by decide +kernel
theorem dX11_aim_14 : decode cX11_aim 14 = .ok (.iload_n 2, 1) := by decide +kernel
theorem dX11_aim_15 : decode cX11_aim 15 = .ok (.bipush 9, 2) := by decide +kernel
theorem dX11_aim_17 : decode cX11_aim 17 = .ok (.if_icmp .le 5, 3) := by decide +kernel
theorem dX11_aim_20 : decode cX11_aim 20 = .ok (.iconst (-1), 1) := by decide +kernel
theorem dX11_aim_21 : decode cX11_aim 21 = .ok (.ireturn, 1) := by decide +kernel
theorem dX11_aim_22 : decode cX11_aim 22 = .ok (.aload_n 0, 1) := by decide +kernel
theorem dX11_aim_23 : decode cX11_aim 23 = .ok (.getfield 83, 3) := by decide +kernel
theorem dX11_aim_26 : decode cX11_aim 26 = .ok (.iload_n 2, 1) := by decide +kernel
theorem dX11_aim_27 : decode cX11_aim 27 = .ok (.invokevirtual 347, 3) := by decide +kernel
theorem dX11_aim_30 : decode cX11_aim 30 = .ok (.ireturn, 1) := by decide +kernel
theorem dX11_rock_0 : decode cX11_rock 0 = .ok (.iload_n 1, 1) := by decide +kernel
theorem dX11_rock_1 : decode cX11_rock 1 = .ok (.ifCond .lt 29, 3) := by decide +kernel
theorem dX11_rock_4 : decode cX11_rock 4 = .ok (.iload_n 1, 1) := by decide +kernel
theorem dX11_rock_5 : decode cX11_rock 5 = .ok (.iconst 4, 1) := by decide +kernel
theorem dX11_rock_6 : decode cX11_rock 6 = .ok (.if_icmp .ge 24, 3) := by decide +kernel
theorem dX11_rock_9 : decode cX11_rock 9 = .ok (.iload_n 2, 1) := by decide +kernel
theorem dX11_rock_10 : decode cX11_rock 10 = .ok (.ifCond .lt 20, 3) := by decide +kernel
theorem dX11_rock_13 : decode cX11_rock 13 = .ok (.iload_n 2, 1) := by decide +kernel
theorem dX11_rock_14 : decode cX11_rock 14 = .ok (.bipush 6, 2) := by decide +kernel
theorem dX11_rock_16 : decode cX11_rock 16 = .ok (.if_icmp .ge 14, 3) := by decide +kernel
theorem dX11_rock_19 : decode cX11_rock 19 = .ok (.iload_n 3, 1) := by decide +kernel
theorem dX11_rock_20 : decode cX11_rock 20 = .ok (.iconst 1, 1) := by decide +kernel
theorem dX11_rock_21 : decode cX11_rock 21 = .ok (.if_icmp .lt 9, 3) := by decide +kernel
theorem dX11_rock_24 : decode cX11_rock 24 = .ok (.iload_n 3, 1) := by decide +kernel
theorem dX11_rock_25 : decode cX11_rock 25 = .ok (.bipush 9, 2) := by decide +kernel
theorem dX11_rock_27 : decode cX11_rock 27 = .ok (.if_icmp .le 5, 3) := by decide +kernel
theorem dX11_rock_30 : decode cX11_rock 30 = .ok (.iconst (-1), 1) := by decide +kernel
theorem dX11_rock_31 : decode cX11_rock 31 = .ok (.ireturn, 1) := by decide +kernel
theorem dX11_rock_32 : decode cX11_rock 32 = .ok (.iload_n 1, 1) := by decide +kernel
theorem dX11_rock_33 : decode cX11_rock 33 = .ok (.bipush 6, 2) := by decide +kernel
theorem dX11_rock_35 : decode cX11_rock 35 = .ok (.imul, 1) := by decide +kernel
theorem dX11_rock_36 : decode cX11_rock 36 = .ok (.iload_n 2, 1) := by decide +kernel
theorem dX11_rock_37 : decode cX11_rock 37 = .ok (.iadd, 1) := by decide +kernel
theorem dX11_rock_38 : decode cX11_rock 38 = .ok (.istore 4, 2) := by decide +kernel
theorem dX11_rock_40 : decode cX11_rock 40 = .ok (.aload_n 0, 1) := by decide +kernel
theorem dX11_rock_41 : decode cX11_rock 41 = .ok (.getfield 83, 3) := by decide +kernel
theorem dX11_rock_44 : decode cX11_rock 44 = .ok (.getfield 350, 3) := by decide +kernel
theorem dX11_rock_47 : decode cX11_rock 47 = .ok (.iload 4, 2) := by decide +kernel
theorem dX11_rock_49 : decode cX11_rock 49 = .ok (.iaload, 1) := by decide +kernel
theorem dX11_rock_50 : decode cX11_rock 50 = .ok (.istore 5, 2) := by decide +kernel
theorem dX11_rock_52 : decode cX11_rock 52 = .ok (.aload_n 0, 1) := by decide +kernel
theorem dX11_rock_53 : decode cX11_rock 53 = .ok (.getfield 83, 3) := by decide +kernel
theorem dX11_rock_56 : decode cX11_rock 56 = .ok (.getfield 350, 3) := by decide +kernel
theorem dX11_rock_59 : decode cX11_rock 59 = .ok (.iload 4, 2) := by decide +kernel
theorem dX11_rock_61 : decode cX11_rock 61 = .ok (.iload_n 3, 1) := by decide +kernel
theorem dX11_rock_62 : decode cX11_rock 62 = .ok (.iastore, 1) := by decide +kernel
theorem dX11_rock_63 : decode cX11_rock 63 = .ok (.iload 5, 2) := by decide +kernel
theorem dX11_rock_65 : decode cX11_rock 65 = .ok (.ireturn, 1) := by decide +kernel
theorem dX11_aimed_0 : decode cX11_aimed 0 = .ok (.iload_n 1, 1) := by decide +kernel
theorem dX11_aimed_1 : decode cX11_aimed 1 = .ok (.iconst 1, 1) := by decide +kernel
theorem dX11_aimed_2 : decode cX11_aimed 2 = .ok (.if_icmp .lt 35, 3) := by decide +kernel
theorem dX11_aimed_5 : decode cX11_aimed 5 = .ok (.iload_n 1, 1) := by decide +kernel
theorem dX11_aimed_6 : decode cX11_aimed 6 = .ok (.iconst 4, 1) := by decide +kernel
theorem dX11_aimed_7 : decode cX11_aimed 7 = .ok (.if_icmp .gt 30, 3) := by decide +kernel
theorem dX11_aimed_10 : decode cX11_aimed 10 = .ok (.iload_n 2, 1) := by decide +kernel
theorem dX11_aimed_11 : decode cX11_aimed 11 = .ok (.invokestatic 122, 3) := by decide +kernel
theorem dX11_aimed_14 : decode cX11_aimed 14 = .ok (.ifCond .eq 23, 3) := by decide +kernel
theorem dX11_aimed_17 : decode cX11_aimed 17 = .ok (.iload_n 3, 1) := by decide +kernel
theorem dX11_aimed_18 : decode cX11_aimed 18 = .ok (.iconst 1, 1) := by decide +kernel
theorem dX11_aimed_19 : decode cX11_aimed 19 = .ok (.if_icmp .lt 18, 3) := by decide +kernel
theorem dX11_aimed_22 : decode cX11_aimed 22 = .ok (.iload_n 3, 1) := by decide +kernel
theorem dX11_aimed_23 : decode cX11_aimed 23 = .ok (.iconst 2, 1) := by decide +kernel
theorem dX11_aimed_24 : decode cX11_aimed 24 = .ok (.if_icmp .gt 13, 3) := by decide +kernel
theorem dX11_aimed_27 : decode cX11_aimed 27 = .ok (.aload_n 0, 1) := by decide +kernel
theorem dX11_aimed_28 : decode cX11_aimed 28 = .ok (.getfield 83, 3) := by decide +kernel
theorem dX11_aimed_31 : decode cX11_aimed 31 = .ok (.getfield 353, 3) := by decide +kernel
theorem dX11_aimed_34 : decode cX11_aimed 34 = .ok (.ifCond .ne 5, 3) := by decide +kernel
theorem dX11_aimed_37 : decode cX11_aimed 37 = .ok (.iconst (-1), 1) := by decide +kernel
theorem dX11_aimed_38 : decode cX11_aimed 38 = .ok (.ireturn, 1) := by decide +kernel
theorem dX11_aimed_39 : decode cX11_aimed 39 = .ok (.iload_n 3, 1) := by decide +kernel
theorem dX11_aimed_40 : decode cX11_aimed 40 = .ok (.iconst 2, 1) := by decide +kernel
theorem dX11_aimed_41 : decode cX11_aimed 41 = .ok (.if_icmp .ne 17, 3) := by decide +kernel
theorem dX11_aimed_44 : decode cX11_aimed 44 = .ok (.aload_n 0, 1) := by decide +kernel
theorem dX11_aimed_45 : decode cX11_aimed 45 = .ok (.getfield 83, 3) := by decide +kernel
theorem dX11_aimed_48 : decode cX11_aimed 48 = .ok (.getfield 353, 3) := by decide +kernel
theorem dX11_aimed_51 : decode cX11_aimed 51 = .ok (.iconst 2, 1) := by decide +kernel
theorem dX11_aimed_52 : decode cX11_aimed 52 = .ok (.if_icmp .ge 6, 3) := by decide +kernel
theorem dX11_aimed_55 : decode cX11_aimed 55 = .ok (.bipush (-2), 2) := by decide +kernel
theorem dX11_aimed_57 : decode cX11_aimed 57 = .ok (.ireturn, 1) := by decide +kernel
theorem dX11_aimed_58 : decode cX11_aimed 58 = .ok (.aload_n 0, 1) := by decide +kernel
theorem dX11_aimed_59 : decode cX11_aimed 59 = .ok (.getfield 83, 3) := by decide +kernel
theorem dX11_aimed_62 : decode cX11_aimed 62 = .ok (.iload_n 1, 1) := by decide +kernel
theorem dX11_aimed_63 : decode cX11_aimed 63 = .ok (.iload_n 2, 1) := by decide +kernel
theorem dX11_aimed_64 : decode cX11_aimed 64 = .ok (.invokevirtual 356, 3) := by decide +kernel
theorem dX11_aimed_67 : decode cX11_aimed 67 = .ok (.iload_n 3, 1) := by decide +kernel
theorem dX11_aimed_68 : decode cX11_aimed 68 = .ok (.iconst 1, 1) := by decide +kernel
theorem dX11_aimed_69 : decode cX11_aimed 69 = .ok (.if_icmp .ne 17, 3) := by decide +kernel
theorem dX11_aimed_72 : decode cX11_aimed 72 = .ok (.aload_n 0, 1) := by decide +kernel
theorem dX11_aimed_73 : decode cX11_aimed 73 = .ok (.getfield 83, 3) := by decide +kernel
theorem dX11_aimed_76 : decode cX11_aimed 76 = .ok (.aload_n 0, 1) := by decide +kernel
theorem dX11_aimed_77 : decode cX11_aimed 77 = .ok (.getfield 34, 3) := by decide +kernel
theorem dX11_aimed_80 : decode cX11_aimed 80 = .ok (.invokevirtual 359, 3) := by decide +kernel
theorem dX11_aimed_83 : decode cX11_aimed 83 = .ok (.goto 14, 3) := by decide +kernel
theorem dX11_aimed_86 : decode cX11_aimed 86 = .ok (.aload_n 0, 1) := by decide +kernel
theorem dX11_aimed_87 : decode cX11_aimed 87 = .ok (.getfield 83, 3) := by decide +kernel
theorem dX11_aimed_90 : decode cX11_aimed 90 = .ok (.aload_n 0, 1) := by decide +kernel
theorem dX11_aimed_91 : decode cX11_aimed 91 = .ok (.getfield 34, 3) := by decide +kernel
theorem dX11_aimed_94 : decode cX11_aimed 94 = .ok (.invokevirtual 363, 3) := by decide +kernel
theorem dX11_aimed_97 : decode cX11_aimed 97 = .ok (.istore 4, 2) := by decide +kernel
theorem dX11_aimed_99 : decode cX11_aimed 99 = .ok (.aload_n 0, 1) := by decide +kernel
theorem dX11_aimed_100 : decode cX11_aimed 100 = .ok (.getfield 83, 3) := by decide +kernel
theorem dX11_aimed_103 : decode cX11_aimed 103 = .ok (.iconst 0, 1) := by decide +kernel
theorem dX11_aimed_104 : decode cX11_aimed 104 = .ok (.putfield 353, 3) := by decide +kernel
theorem dX11_aimed_107 : decode cX11_aimed 107 = .ok (.iload 4, 2) := by decide +kernel
theorem dX11_aimed_109 : decode cX11_aimed 109 = .ok (.ireturn, 1) := by decide +kernel
theorem dX11_aimedAt_0 : decode cX11_aimedAt 0 = .ok (.iload_n 1, 1) := by decide +kernel
theorem dX11_aimedAt_1 : decode cX11_aimedAt 1 = .ok (.ifCond .lt 23, 3) := by decide +kernel
theorem dX11_aimedAt_4 : decode cX11_aimedAt 4 = .ok (.iload_n 1, 1) := by decide +kernel
theorem dX11_aimedAt_5 : decode cX11_aimedAt 5 = .ok (.aload_n 0, 1) := by decide +kernel
theorem dX11_aimedAt_6 : decode cX11_aimedAt 6 = .ok (.getfield 83, 3) := by decide +kernel
theorem dX11_aimedAt_9 : decode cX11_aimedAt 9 = .ok (.getfield 366, 3) := by decide +kernel
theorem dX11_aimedAt_12 : decode cX11_aimedAt 12 = .ok (.if_icmp .ge 12, 3) := by decide +kernel
theorem dX11_aimedAt_15 : decode cX11_aimedAt 15 = .ok (.iload_n 2, 1) := by decide +kernel
theorem dX11_aimedAt_16 : decode cX11_aimedAt 16 = .ok (.ifCond .lt 8, 3) := by decide +kernel
theorem dX11_aimedAt_19 : decode cX11_aimedAt 19 = .ok (.iload_n 2, 1) := by decide +kernel
theorem dX11_aimedAt_20 : decode cX11_aimedAt 20 = .ok (.iconst 1, 1) := by decide +kernel
theorem dX11_aimedAt_21 : decode cX11_aimedAt 21 = .ok (.if_icmp .le 5, 3) := by decide +kernel
theorem dX11_aimedAt_24 : decode cX11_aimedAt 24 = .ok (.iconst (-1), 1) := by decide +kernel
theorem dX11_aimedAt_25 : decode cX11_aimedAt 25 = .ok (.ireturn, 1) := by decide +kernel
theorem dX11_aimedAt_26 : decode cX11_aimedAt 26 = .ok (.iload_n 2, 1) := by decide +kernel
theorem dX11_aimedAt_27 : decode cX11_aimedAt 27 = .ok (.ifCond .ne 15, 3) := by decide +kernel
theorem dX11_aimedAt_30 : decode cX11_aimedAt 30 = .ok (.aload_n 0, 1) := by decide +kernel
theorem dX11_aimedAt_31 : decode cX11_aimedAt 31 = .ok (.getfield 83, 3) := by decide +kernel
theorem dX11_aimedAt_34 : decode cX11_aimedAt 34 = .ok (.getfield 369, 3) := by decide +kernel
theorem dX11_aimedAt_37 : decode cX11_aimedAt 37 = .ok (.iload_n 1, 1) := by decide +kernel
theorem dX11_aimedAt_38 : decode cX11_aimedAt 38 = .ok (.iaload, 1) := by decide +kernel
theorem dX11_aimedAt_39 : decode cX11_aimedAt 39 = .ok (.goto 12, 3) := by decide +kernel
theorem dX11_aimedAt_42 : decode cX11_aimedAt 42 = .ok (.aload_n 0, 1) := by decide +kernel
theorem dX11_aimedAt_43 : decode cX11_aimedAt 43 = .ok (.getfield 83, 3) := by decide +kernel
theorem dX11_aimedAt_46 : decode cX11_aimedAt 46 = .ok (.getfield 372, 3) := by decide +kernel
theorem dX11_aimedAt_49 : decode cX11_aimedAt 49 = .ok (.iload_n 1, 1) := by decide +kernel
theorem dX11_aimedAt_50 : decode cX11_aimedAt 50 = .ok (.iaload, 1) := by decide +kernel
theorem dX11_aimedAt_51 : decode cX11_aimedAt 51 = .ok (.ireturn, 1) := by decide +kernel
theorem dX11_race_0 : decode cX11_race 0 = .ok (.aload_n 0, 1) := by decide +kernel
theorem dX11_race_1 : decode cX11_race 1 = .ok (.iload_n 1, 1) := by decide +kernel
theorem dX11_race_2 : decode cX11_race 2 = .ok (.invokevirtual 158, 3) := by decide +kernel
theorem dX11_race_5 : decode cX11_race 5 = .ok (.astore 4, 2) := by decide +kernel
theorem dX11_race_7 : decode cX11_race 7 = .ok (.aload 4, 2) := by decide +kernel
theorem dX11_race_9 : decode cX11_race 9 = .ok (.ifnull 21, 3) := by decide +kernel
theorem dX11_race_12 : decode cX11_race 12 = .ok (.iload_n 2, 1) := by decide +kernel
theorem dX11_race_13 : decode cX11_race 13 = .ok (.invokestatic 122, 3) := by decide +kernel
theorem dX11_race_16 : decode cX11_race 16 = .ok (.ifCond .eq 14, 3) := by decide +kernel
theorem dX11_race_19 : decode cX11_race 19 = .ok (.iload_n 3, 1) := by decide +kernel
theorem dX11_race_20 : decode cX11_race 20 = .ok (.iconst 1, 1) := by decide +kernel
theorem dX11_race_21 : decode cX11_race 21 = .ok (.if_icmp .lt 9, 3) := by decide +kernel
theorem dX11_race_24 : decode cX11_race 24 = .ok (.iload_n 3, 1) := by decide +kernel
theorem dX11_race_25 : decode cX11_race 25 = .ok (.bipush 9, 2) := by decide +kernel
theorem dX11_race_27 : decode cX11_race 27 = .ok (.if_icmp .le 5, 3) := by decide +kernel
theorem dX11_race_30 : decode cX11_race 30 = .ok (.iconst (-1), 1) := by decide +kernel
theorem dX11_race_31 : decode cX11_race 31 = .ok (.ireturn, 1) := by decide +kernel
theorem dX11_race_32 : decode cX11_race 32 = .ok (.aload_n 0, 1) := by decide +kernel
theorem dX11_race_33 : decode cX11_race 33 = .ok (.getfield 28, 3) := by decide +kernel
theorem dX11_race_36 : decode cX11_race 36 = .ok (.aload 4, 2) := by decide +kernel
theorem dX11_race_38 : decode cX11_race 38 = .ok (.getfield 165, 3) := by decide +kernel
