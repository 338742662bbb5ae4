theorem dX11_firstUnlikeYard_34 : decode cX11_firstUnlikeYard 34 = .ok (.istore_n 3, 1) := by decide +kernel
theorem dX11_firstUnlikeYard_35 : decode cX11_firstUnlikeYard 35 = .ok (.iload 4, 2) := by decide +kernel
theorem dX11_firstUnlikeYard_37 : decode cX11_firstUnlikeYard 37 = .ok (.aload_n 2, 1) := by decide +kernel
theorem dX11_firstUnlikeYard_38 : decode cX11_firstUnlikeYard 38 = .ok (.iload 5, 2) := by decide +kernel
theorem dX11_firstUnlikeYard_40 : decode cX11_firstUnlikeYard 40 = .ok (.aload_n 0, 1) := by decide +kernel
theorem dX11_firstUnlikeYard_41 : decode cX11_firstUnlikeYard 41 = .ok (.getfield 94, 3) := by decide +kernel
theorem dX11_firstUnlikeYard_44 : decode cX11_firstUnlikeYard 44 = .ok (.invokevirtual 211, 3) := by decide +kernel
theorem dX11_firstUnlikeYard_47 : decode cX11_firstUnlikeYard 47 = .ok (.iadd, 1) := by decide +kernel
theorem dX11_firstUnlikeYard_48 : decode cX11_firstUnlikeYard 48 = .ok (.istore 4, 2) := by decide +kernel
theorem dX11_firstUnlikeYard_50 : decode cX11_firstUnlikeYard 50 = .ok (.aload_n 1, 1) := by decide +kernel
theorem dX11_firstUnlikeYard_51 : decode cX11_firstUnlikeYard 51 = .ok (.iload 5, 2) := by decide +kernel
theorem dX11_firstUnlikeYard_53 : decode cX11_firstUnlikeYard 53 = .ok (.iload_n 3, 1) := by decide +kernel
theorem dX11_firstUnlikeYard_54 : decode cX11_firstUnlikeYard 54 = .ok (.invokestatic 214, 3) := by decide +kernel
theorem dX11_firstUnlikeYard_57 : decode cX11_firstUnlikeYard 57 = .ok (.iload 4, 2) := by decide +kernel
theorem dX11_firstUnlikeYard_59 : decode cX11_firstUnlikeYard 59 = .ok (.invokestatic 217, 3) := by decide +kernel
theorem dX11_firstUnlikeYard_62 : decode cX11_firstUnlikeYard 62 = .ok (.aload_n 2, 1) := by decide +kernel
theorem dX11_firstUnlikeYard_63 : decode cX11_firstUnlikeYard 63 = .ok (.getfield 187, 3) := by decide +kernel
theorem dX11_firstUnlikeYard_66 : decode cX11_firstUnlikeYard 66 = .ok (.iload 5, 2) := by decide +kernel
theorem dX11_firstUnlikeYard_68 : decode cX11_firstUnlikeYard 68 = .ok (.iaload, 1) := by decide +kernel
theorem dX11_firstUnlikeYard_69 : decode cX11_firstUnlikeYard 69 = .ok (.invokevirtual 473, 3) := by decide +kernel
theorem dX11_firstUnlikeYard_72 : decode cX11_firstUnlikeYard 72 = .ok (.ifCond .eq 6, 3) := by decide +kernel
theorem dX11_firstUnlikeYard_75 : decode cX11_firstUnlikeYard 75 = .ok (.iload 5, 2) := by decide +kernel
theorem dX11_firstUnlikeYard_77 : decode cX11_firstUnlikeYard 77 = .ok (.ireturn, 1) := by decide +kernel
theorem dX11_firstUnlikeYard_78 : decode cX11_firstUnlikeYard 78 = .ok (.iinc 5 1, 3) := by decide +kernel
theorem dX11_firstUnlikeYard_81 : decode cX11_firstUnlikeYard 81 = .ok (.goto (-68), 3) := by decide +kernel
theorem dX11_firstUnlikeYard_84 : decode cX11_firstUnlikeYard 84 = .ok (.iconst 0, 1) := by decide +kernel
theorem dX11_firstUnlikeYard_85 : decode cX11_firstUnlikeYard 85 = .ok (.ireturn, 1) := by decide +kernel
theorem dX11_latestText_0 : decode cX11_latestText 0 = .ok (.aload_n 0, 1) := by decide +kernel
theorem dX11_latestText_1 : decode cX11_latestText 1 = .ok (.getfield 98, 3) := by decide +kernel
theorem dX11_latestText_4 : decode cX11_latestText 4 = .ok (.iload 4, 2) := by decide +kernel
theorem dX11_latestText_6 : decode cX11_latestText 6 = .ok (.if_icmp .gt 7, 3) := by decide +kernel
theorem dX11_latestText_9 : decode cX11_latestText 9 = .ok (.iconst 1, 1) := by decide +kernel
theorem dX11_latestText_10 : decode cX11_latestText 10 = .ok (.goto 4, 3) := by decide +kernel
theorem dX11_latestText_13 : decode cX11_latestText 13 = .ok (.iconst 0, 1) := by decide +kernel
theorem dX11_latestText_14 : decode cX11_latestText 14 = .ok (.istore 5, 2) := by decide +kernel
theorem dX11_latestText_16 : decode cX11_latestText 16 = .ok (.aload_n 0, 1) := by decide +kernel
theorem dX11_latestText_17 : decode cX11_latestText 17 = .ok (.getfield 267, 3) := by decide +kernel
theorem dX11_latestText_20 : decode cX11_latestText 20 = .ok (.iconst 1, 1) := by decide +kernel
theorem dX11_latestText_21 : decode cX11_latestText 21 = .ok (.isub, 1) := by decide +kernel
theorem dX11_latestText_22 : decode cX11_latestText 22 = .ok (.istore 6, 2) := by decide +kernel
theorem dX11_latestText_24 : decode cX11_latestText 24 = .ok (.iload 6, 2) := by decide +kernel
theorem dX11_latestText_26 : decode cX11_latestText 26 = .ok (.ifCond .lt 71, 3) := by decide +kernel
theorem dX11_latestText_29 : decode cX11_latestText 29 = .ok (.aload_n 0, 1) := by decide +kernel
theorem dX11_latestText_30 : decode cX11_latestText 30 = .ok (.getfield 54, 3) := by decide +kernel
theorem dX11_latestText_33 : decode cX11_latestText 33 = .ok (.iload 6, 2) := by decide +kernel
theorem dX11_latestText_35 : decode cX11_latestText 35 = .ok (.aaload, 1) := by decide +kernel
theorem dX11_latestText_36 : decode cX11_latestText 36 = .ok (.astore 7, 2) := by decide +kernel
theorem dX11_latestText_38 : decode cX11_latestText 38 = .ok (.aload 7, 2) := by decide +kernel
theorem dX11_latestText_40 : decode cX11_latestText 40 = .ok (.ifnull 51, 3) := by decide +kernel
theorem dX11_latestText_43 : decode cX11_latestText 43 = .ok (.aload 7, 2) := by decide +kernel
theorem dX11_latestText_45 : decode cX11_latestText 45 = .ok (.getfield 477, 3) := by decide +kernel
theorem dX11_latestText_48 : decode cX11_latestText 48 = .ok (.iload_n 2, 1) := by decide +kernel
theorem dX11_latestText_49 : decode cX11_latestText 49 = .ok (.if_icmp .ne 42, 3) := by decide +kernel
theorem dX11_latestText_52 : decode cX11_latestText 52 = .ok (.aload 7, 2) := by decide +kernel
theorem dX11_latestText_54 : decode cX11_latestText 54 = .ok (.getfield 480, 3) := by decide +kernel
theorem dX11_latestText_57 : decode cX11_latestText 57 = .ok (.iload 4, 2) := by decide +kernel
theorem dX11_latestText_59 : decode cX11_latestText 59 = .ok (.if_icmp .gt 32, 3) := by decide +kernel
theorem dX11_latestText_62 : decode cX11_latestText 62 = .ok (.aload 7, 2) := by decide +kernel
theorem dX11_latestText_64 : decode cX11_latestText 64 = .ok (.getfield 483, 3) := by decide +kernel
theorem dX11_latestText_67 : decode cX11_latestText 67 = .ok (.iload_n 3, 1) := by decide +kernel
theorem dX11_latestText_68 : decode cX11_latestText 68 = .ok (.if_icmp .le 6, 3) := by decide +kernel
theorem dX11_latestText_71 : decode cX11_latestText 71 = .ok (.goto 20, 3) := by decide +kernel
theorem dX11_latestText_74 : decode cX11_latestText 74 = .ok (.iload 5, 2) := by decide +kernel
theorem dX11_latestText_76 : decode cX11_latestText 76 = .ok (.ifCond .ne 12, 3) := by decide +kernel
theorem dX11_latestText_79 : decode cX11_latestText 79 = .ok (.aload 7, 2) := by decide +kernel
theorem dX11_latestText_81 : decode cX11_latestText 81 = .ok (.getfield 486, 3) := by decide +kernel
theorem dX11_latestText_84 : decode cX11_latestText 84 = .ok (.iload_n 1, 1) := by decide +kernel
theorem dX11_latestText_85 : decode cX11_latestText 85 = .ok (.if_icmp .ne 6, 3) := by decide +kernel
theorem dX11_latestText_88 : decode cX11_latestText 88 = .ok (.iload 6, 2) := by decide +kernel
theorem dX11_latestText_90 : decode cX11_latestText 90 = .ok (.ireturn, 1) := by decide +kernel
theorem dX11_latestText_91 : decode cX11_latestText 91 = .ok (.iinc 6 (-1), 3) := by decide +kernel
theorem dX11_latestText_94 : decode cX11_latestText 94 = .ok (.goto (-70), 3) := by decide +kernel
theorem dX11_latestText_97 : decode cX11_latestText 97 = .ok (.bipush (-2), 2) := by decide +kernel
theorem dX11_latestText_99 : decode cX11_latestText 99 = .ok (.ireturn, 1) := by decide +kernel
theorem dX11_given_0 : decode cX11_given 0 = .ok (.iload_n 1, 1) := by decide +kernel
theorem dX11_given_1 : decode cX11_given 1 = .ok (.ifCond .lt 11, 3) := by decide +kernel
theorem dX11_given_4 : decode cX11_given 4 = .ok (.iload_n 1, 1) := by decide +kernel
theorem dX11_given_5 : decode cX11_given 5 = .ok (.aload_n 0, 1) := by decide +kernel
theorem dX11_given_6 : decode cX11_given 6 = .ok (.getfield 267, 3) := by decide +kernel
theorem dX11_given_9 : decode cX11_given 9 = .ok (.if_icmp .lt 7, 3) := by decide +kernel
theorem dX11_given_12 : decode cX11_given 12 = .ok (.aconst_null, 1) := by decide +kernel
theorem dX11_given_13 : decode cX11_given 13 = .ok (.goto 9, 3) := by decide +kernel
theorem dX11_given_16 : decode cX11_given 16 = .ok (.aload_n 0, 1) := by decide +kernel
theorem dX11_given_17 : decode cX11_given 17 = .ok (.getfield 54, 3) := by decide +kernel
theorem dX11_given_20 : decode cX11_given 20 = .ok (.iload_n 1, 1) := by decide +kernel
theorem dX11_given_21 : decode cX11_given 21 = .ok (.aaload, 1) := by decide +kernel
theorem dX11_given_22 : decode cX11_given 22 = .ok (.astore 4, 2) := by decide +kernel
theorem dX11_given_24 : decode cX11_given 24 = .ok (.aload 4, 2) := by decide +kernel
theorem dX11_given_26 : decode cX11_given 26 = .ok (.ifnonnull 13, 3) := by decide +kernel
theorem dX11_given_29 : decode cX11_given 29 = .ok (.iload_n 2, 1) := by decide +kernel
theorem dX11_given_30 : decode cX11_given 30 = .ok (.ifCond .ne 7, 3) := by decide +kernel
theorem dX11_given_33 : decode cX11_given 33 = .ok (.iconst 1, 1) := by decide +kernel
theorem dX11_given_34 : decode cX11_given 34 = .ok (.goto 4, 3) := by decide +kernel
theorem dX11_given_37 : decode cX11_given 37 = .ok (.iconst 0, 1) := by decide +kernel
theorem dX11_given_38 : decode cX11_given 38 = .ok (.ireturn, 1) := by decide +kernel
theorem dX11_given_39 : decode cX11_given 39 = .ok (.aload_n 0, 1) := by decide +kernel
theorem dX11_given_40 : decode cX11_given 40 = .ok (.getfield 28, 3) := by decide +kernel
theorem dX11_given_43 : decode cX11_given 43 = .ok (.iload_n 3, 1) := by decide +kernel
theorem dX11_given_44 : decode cX11_given 44 = .ok (.invokevirtual 135, 3) := by decide +kernel
theorem dX11_given_47 : decode cX11_given 47 = .ok (.bipush 7, 2) := by decide +kernel
theorem dX11_given_49 : decode cX11_given 49 = .ok (.if_icmp .ne 7, 3) := by decide +kernel
theorem dX11_given_52 : decode cX11_given 52 = .ok (.iconst 1, 1) := by decide +kernel
theorem dX11_given_53 : decode cX11_given 53 = .ok (.goto 4, 3) := by decide +kernel
theorem dX11_given_56 : decode cX11_given 56 = .ok (.iconst 0, 1) := by decide +kernel
theorem dX11_given_57 : decode cX11_given 57 = .ok (.istore 5, 2) := by decide +kernel
theorem dX11_given_59 : decode cX11_given 59 = .ok (.aload_n 0, 1) := by decide +kernel
theorem dX11_given_60 : decode cX11_given 60 = .ok (.getfield 66, 3) := by decide +kernel
theorem dX11_given_63 : decode cX11_given 63 = .ok (.iconst 0, 1) := by decide +kernel
theorem dX11_given_64 : decode cX11_given 64 = .ok (.aload_n 0, 1) := by decide +kernel
theorem dX11_given_65 : decode cX11_given 65 = .ok (.getfield 168, 3) := by decide +kernel
theorem dX11_given_68 : decode cX11_given 68 = .ok (.iastore, 1) := by decide +kernel
theorem dX11_given_69 : decode cX11_given 69 = .ok (.aload_n 0, 1) := by decide +kernel
theorem dX11_given_70 : decode cX11_given 70 = .ok (.getfield 66, 3) := by decide +kernel
theorem dX11_given_73 : decode cX11_given 73 = .ok (.iconst 1, 1) := by decide +kernel
theorem dX11_given_74 : decode cX11_given 74 = .ok (.aload_n 0, 1) := by decide +kernel
theorem dX11_given_75 : decode cX11_given 75 = .ok (.getfield 168, 3) := by decide +kernel
theorem dX11_given_78 : decode cX11_given 78 = .ok (.bipush 24, 2) := by decide +kernel
theorem dX11_given_80 : decode cX11_given 80 = .ok (.idiv, 1) := by decide +kernel
theorem dX11_given_81 : decode cX11_given 81 = .ok (.iastore, 1) := by decide +kernel
theorem dX11_given_82 : decode cX11_given 82 = .ok (.aload_n 0, 1) := by decide +kernel
theorem dX11_given_83 : decode cX11_given 83 = .ok (.getfield 66, 3) := by decide +kernel
theorem dX11_given_86 : decode cX11_given 86 = .ok (.iconst 2, 1) := by decide +kernel
theorem dX11_given_87 : decode cX11_given 87 = .ok (.iload 5, 2) := by decide +kernel
theorem dX11_given_89 : decode cX11_given 89 = .ok (.ifCond .eq 15, 3) := by decide +kernel
theorem dX11_given_92 : decode cX11_given 92 = .ok (.aload_n 0, 1) := by decide +kernel
theorem dX11_given_93 : decode cX11_given 93 = .ok (.getfield 19, 3) := by decide +kernel
theorem dX11_given_96 : decode cX11_given 96 = .ok (.getfield 489, 3) := by decide +kernel
theorem dX11_given_99 : decode cX11_given 99 = .ok (.iload_n 3, 1) := by decide +kernel
theorem dX11_given_100 : decode cX11_given 100 = .ok (.iaload, 1) := by decide +kernel
theorem dX11_given_101 : decode cX11_given 101 = .ok (.goto 4, 3) := by decide +kernel
theorem dX11_given_104 : decode cX11_given 104 = .ok (.iconst 0, 1) := by decide +kernel
theorem dX11_given_105 : decode cX11_given 105 = .ok (.iastore, 1) := by decide +kernel
theorem dX11_given_106 : decode cX11_given 106 = .ok (.aload_n 0, 1) := by decide +kernel
theorem dX11_given_107 : decode cX11_given 107 = .ok (.getfield 66, 3) := by decide +kernel
theorem dX11_given_110 : decode cX11_given 110 = .ok (.iconst 3, 1) := by decide +kernel
theorem dX11_given_111 : decode cX11_given 111 = .ok (.iload 5, 2) := by decide +kernel
theorem dX11_given_113 : decode cX11_given 113 = .ok (.ifCond .eq 15, 3) := by decide +kernel
theorem dX11_given_116 : decode cX11_given 116 = .ok (.aload_n 0, 1) := by decide +kernel
theorem dX11_given_117 : decode cX11_given 117 = .ok (.getfield 19, 3) := by decide +kernel
theorem dX11_given_120 : decode cX11_given 120 = .ok (.getfield 492, 3) := by decide +kernel
theorem dX11_given_123 : decode cX11_given 123 = .ok (.iload_n 3, 1) := by decide +kernel
theorem dX11_given_124 : decode cX11_given 124 = .ok (.iaload, 1) := by decide +kernel
theorem dX11_given_125 : decode cX11_given 125 = .ok (.goto 4, 3) := by decide +kernel
theorem dX11_given_128 : decode cX11_given 128 = .ok (.iconst 0, 1) := by decide +kernel
theorem dX11_given_129 : decode cX11_given 129 = .ok (.iastore, 1) := by decide +kernel
theorem dX11_given_130 : decode cX11_given 130 = .ok (.aload_n 0, 1) := by decide +kernel
theorem dX11_given_131 : decode cX11_given 131 = .ok (.getfield 66, 3) := by decide +kernel
theorem dX11_given_134 : decode cX11_given 134 = .ok (.iconst 4, 1) := by decide +kernel
theorem dX11_given_135 : decode cX11_given 135 = .ok (.iload 5, 2) := by decide +kernel
theorem dX11_given_137 : decode cX11_given 137 = .ok (.ifCond .eq 15, 3) := by decide +kernel
theorem dX11_given_140 : decode cX11_given 140 = .ok (.aload_n 0, 1) := by decide +kernel
theorem dX11_given_141 : decode cX11_given 141 = .ok (.getfield 19, 3) := by decide +kernel
theorem dX11_given_144 : decode cX11_given 144 = .ok (.getfield 155, 3) := by decide +kernel
theorem dX11_given_147 : decode cX11_given 147 = .ok (.iload_n 3, 1) := by decide +kernel
theorem dX11_given_148 : decode cX11_given 148 = .ok (.iaload, 1) := by decide +kernel
theorem dX11_given_149 : decode cX11_given 149 = .ok (.goto 4, 3) := by decide +kernel
theorem dX11_given_152 : decode cX11_given 152 = .ok (.iconst 0, 1) := by decide +kernel
theorem dX11_given_153 : decode cX11_given 153 = .ok (.iastore, 1) := by decide +kernel
theorem dX11_given_154 : decode cX11_given 154 = .ok (.aload_n 0, 1) := by decide +kernel
theorem dX11_given_155 : decode cX11_given 155 = .ok (.getfield 66, 3) := by decide +kernel
theorem dX11_given_158 : decode cX11_given 158 = .ok (.iconst 5, 1) := by decide +kernel
theorem dX11_given_159 : decode cX11_given 159 = .ok (.aload_n 0, 1) := by decide +kernel
theorem dX11_given_160 : decode cX11_given 160 = .ok (.getfield 19, 3) := by decide +kernel
theorem dX11_given_163 : decode cX11_given 163 = .ok (.getfield 301, 3) := by decide +kernel
theorem dX11_given_166 : decode cX11_given 166 = .ok (.iastore, 1) := by decide +kernel
theorem dX11_given_167 : decode cX11_given 167 = .ok (.aload_n 0, 1) := by decide +kernel
theorem dX11_given_168 : decode cX11_given 168 = .ok (.getfield 66, 3) := by decide +kernel
theorem dX11_given_171 : decode cX11_given 171 = .ok (.bipush 6, 2) := by decide +kernel
theorem dX11_given_173 : decode cX11_given 173 = .ok (.aload_n 0, 1) := by decide +kernel
theorem dX11_given_174 : decode cX11_given 174 = .ok (.getfield 76, 3) := by decide +kernel
theorem dX11_given_177 : decode cX11_given 177 = .ok (.getfield 295, 3) := by decide +kernel
theorem dX11_given_180 : decode cX11_given 180 = .ok (.iastore, 1) := by decide +kernel
theorem dX11_given_181 : decode cX11_given 181 = .ok (.aload_n 0, 1) := by decide +kernel
theorem dX11_given_182 : decode cX11_given 182 = .ok (.getfield 66, 3) := by decide +kernel
theorem dX11_given_185 : decode cX11_given 185 = .ok (.bipush 7, 2) := by decide +kernel
theorem dX11_given_187 : decode cX11_given 187 = .ok (.aload_n 0, 1) := by decide +kernel
theorem dX11_given_188 : decode cX11_given 188 = .ok (.getfield 454, 3) := by decide +kernel
theorem dX11_given_191 : decode cX11_given 191 = .ok (.iastore, 1) := by decide +kernel
theorem dX11_given_192 : decode cX11_given 192 = .ok (.aload 4, 2) := by decide +kernel
theorem dX11_given_194 : decode cX11_given 194 = .ok (.aload_n 0, 1) := by decide +kernel
theorem dX11_given_195 : decode cX11_given 195 = .ok (.getfield 66, 3) := by decide +kernel
theorem dX11_given_198 : decode cX11_given 198 = .ok (.aload_n 0, 1) := by decide +kernel
theorem dX11_given_199 : decode cX11_given 199 = .ok (.getfield 70, 3) := by decide +kernel
theorem dX11_given_202 : decode cX11_given 202 = .ok (.invokevirtual 495, 3) := by decide +kernel
theorem dX11_given_205 : decode cX11_given 205 = .ok (.ireturn, 1) := by decide +kernel
theorem dX11_hourGoesBy_0 : decode cX11_hourGoesBy 0 = .ok (.aload_n 0, 1) := by decide +kernel
theorem dX11_hourGoesBy_1 : decode cX11_hourGoesBy 1 = .ok (.dup, 1) := by decide +kernel
theorem dX11_hourGoesBy_2 : decode cX11_hourGoesBy 2 = .ok (.getfield 168, 3) := by decide +kernel
theorem dX11_hourGoesBy_5 : decode cX11_hourGoesBy 5 = .ok (.iconst 1, 1) := by decide +kernel
theorem dX11_hourGoesBy_6 : decode cX11_hourGoesBy 6 = .ok (.iadd, 1) := by decide +kernel
theorem dX11_hourGoesBy_7 : decode cX11_hourGoesBy 7 = .ok (.putfield 168, 3) := by decide +kernel
theorem dX11_hourGoesBy_10 : decode cX11_hourGoesBy 10 = .ok (.aload_n 0, 1) := by decide +kernel
theorem dX11_hourGoesBy_11 : decode cX11_hourGoesBy 11 = .ok (.aload_n 0, 1) := by decide +kernel
theorem dX11_hourGoesBy_12 : decode cX11_hourGoesBy 12 = .ok (.iconst 0, 1) := by decide +kernel
theorem dX11_hourGoesBy_13 : decode cX11_hourGoesBy 13 = .ok (.iconst 2, 1) := by decide +kernel
theorem dX11_hourGoesBy_14 : decode cX11_hourGoesBy 14 = .ok (.aload_n 0, 1) := by decide +kernel
theorem dX11_hourGoesBy_15 : decode cX11_hourGoesBy 15 = .ok (.getfield 168, 3) := by decide +kernel
theorem dX11_hourGoesBy_18 : decode cX11_hourGoesBy 18 = .ok (.aload_n 0, 1) := by decide +kernel
theorem dX11_hourGoesBy_19 : decode cX11_hourGoesBy 19 = .ok (.getfield 168, 3) := by decide +kernel
theorem dX11_hourGoesBy_22 : decode cX11_hourGoesBy 22 = .ok (.invokevirtual 285, 3) := by decide +kernel
theorem dX11_hourGoesBy_25 : decode cX11_hourGoesBy 25 = .ok (.iconst 2, 1) := by decide +kernel
theorem dX11_hourGoesBy_26 : decode cX11_hourGoesBy 26 = .ok (.iconst (-1), 1) := by decide +kernel
theorem dX11_hourGoesBy_27 : decode cX11_hourGoesBy 27 = .ok (.invokevirtual 289, 3) := by decide +kernel
theorem dX11_hourGoesBy_30 : decode cX11_hourGoesBy 30 = .ok (.ifCond .ne 7, 3) := by decide +kernel
theorem dX11_hourGoesBy_33 : decode cX11_hourGoesBy 33 = .ok (.aload_n 0, 1) := by decide +kernel
theorem dX11_hourGoesBy_34 : decode cX11_hourGoesBy 34 = .ok (.invokevirtual 499, 3) := by decide +kernel
theorem dX11_hourGoesBy_37 : decode cX11_hourGoesBy 37 = .ok (.aload_n 0, 1) := by decide +kernel
theorem dX11_hourGoesBy_38 : decode cX11_hourGoesBy 38 = .ok (.getfield 76, 3) := by decide +kernel
theorem dX11_hourGoesBy_41 : decode cX11_hourGoesBy 41 = .ok (.aload_n 0, 1) := by decide +kernel
theorem dX11_hourGoesBy_42 : decode cX11_hourGoesBy 42 = .ok (.getfield 168, 3) := by decide +kernel
theorem dX11_hourGoesBy_45 : decode cX11_hourGoesBy 45 = .ok (.invokevirtual 502, 3) := by decide +kernel
theorem dX11_hourGoesBy_48 : decode cX11_hourGoesBy 48 = .ok (.aload_n 0, 1) := by decide +kernel
theorem dX11_hourGoesBy_49 : decode cX11_hourGoesBy 49 = .ok (.getfield 168, 3) := by decide +kernel
theorem dX11_hourGoesBy_52 : decode cX11_hourGoesBy 52 = .ok (.bipush 24, 2) := by decide +kernel
theorem dX11_hourGoesBy_54 : decode cX11_hourGoesBy 54 = .ok (.irem, 1) := by decide +kernel
theorem dX11_hourGoesBy_55 : decode cX11_hourGoesBy 55 = .ok (.ifCond .ne 7, 3) := by decide +kernel
theorem dX11_hourGoesBy_58 : decode cX11_hourGoesBy 58 = .ok (.aload_n 0, 1) := by decide +kernel
theorem dX11_hourGoesBy_59 : decode cX11_hourGoesBy 59 = .ok (.invokevirtual 506, 3) := by decide +kernel
theorem dX11_hourGoesBy_62 : decode cX11_hourGoesBy 62 = .ok (.aload_n 0, 1) := by decide +kernel
theorem dX11_hourGoesBy_63 : decode cX11_hourGoesBy 63 = .ok (.invokevirtual 509, 3) := by decide +kernel
theorem dX11_hourGoesBy_66 : decode cX11_hourGoesBy 66 = .ok (.return_, 1) := by decide +kernel
theorem dX11_machinesWork_0 : decode cX11_machinesWork 0 = .ok (.iconst 0, 1) := by decide +kernel
theorem dX11_machinesWork_1 : decode cX11_machinesWork 1 = .ok (.istore_n 1, 1) := by decide +kernel
theorem dX11_machinesWork_2 : decode cX11_machinesWork 2 = .ok (.iload_n 1, 1) := by decide +kernel
theorem dX11_machinesWork_3 : decode cX11_machinesWork 3 = .ok (.iconst 3, 1) := by decide +kernel
theorem dX11_machinesWork_4 : decode cX11_machinesWork 4 = .ok (.if_icmp .ge 71, 3) := by decide +kernel
theorem dX11_machinesWork_7 : decode cX11_machinesWork 7 = .ok (.aload_n 0, 1) := by decide +kernel
theorem dX11_machinesWork_8 : decode cX11_machinesWork 8 = .ok (.getfield 28, 3) := by decide +kernel
theorem dX11_machinesWork_11 : decode cX11_machinesWork 11 = .ok (.aload_n 0, 1) := by decide +kernel
theorem dX11_machinesWork_12 : decode cX11_machinesWork 12 = .ok (.getfield 34, 3) := by decide +kernel
theorem dX11_machinesWork_15 : decode cX11_machinesWork 15 = .ok (.iload_n 1, 1) := by decide +kernel
theorem dX11_machinesWork_16 : decode cX11_machinesWork 16 = .ok (.aaload, 1) := by decide +kernel
theorem dX11_machinesWork_17 : decode cX11_machinesWork 17 = .ok (.getfield 165, 3) := by decide +kernel
theorem dX11_machinesWork_20 : decode cX11_machinesWork 20 = .ok (.invokevirtual 139, 3) := by decide +kernel
theorem dX11_machinesWork_23 : decode cX11_machinesWork 23 = .ok (.astore_n 2, 1) := by decide +kernel
theorem dX11_machinesWork_24 : decode cX11_machinesWork 24 = .ok (.aload_n 2, 1) := by decide +kernel
theorem dX11_machinesWork_25 : decode cX11_machinesWork 25 = .ok (.ifnull 44, 3) := by decide +kernel
theorem dX11_machinesWork_28 : decode cX11_machinesWork 28 = .ok (.aload_n 0, 1) := by decide +kernel
theorem dX11_machinesWork_29 : decode cX11_machinesWork 29 = .ok (.getfield 168, 3) := by decide +kernel
theorem dX11_machinesWork_32 : decode cX11_machinesWork 32 = .ok (.aload_n 0, 1) := by decide +kernel
theorem dX11_machinesWork_33 : decode cX11_machinesWork 33 = .ok (.getfield 34, 3) := by decide +kernel
theorem dX11_machinesWork_36 : decode cX11_machinesWork 36 = .ok (.iload_n 1, 1) := by decide +kernel
theorem dX11_machinesWork_37 : decode cX11_machinesWork 37 = .ok (.aaload, 1) := by decide +kernel
theorem dX11_machinesWork_38 : decode cX11_machinesWork 38 = .ok (.getfield 171, 3) := by decide +kernel
theorem dX11_machinesWork_41 : decode cX11_machinesWork 41 = .ok (.if_icmp .le 28, 3) := by decide +kernel
theorem dX11_machinesWork_44 : decode cX11_machinesWork 44 = .ok (.aload_n 2, 1) := by decide +kernel
theorem dX11_machinesWork_45 : decode cX11_machinesWork 45 = .ok (.dup, 1) := by decide +kernel
theorem dX11_machinesWork_46 : decode cX11_machinesWork 46 = .ok (.getfield 375, 3) := by decide +kernel
theorem dX11_machinesWork_49 : decode cX11_machinesWork 49 = .ok (.bipush 60, 2) := by decide +kernel
theorem dX11_machinesWork_51 : decode cX11_machinesWork 51 = .ok (.iadd, 1) := by decide +kernel
theorem dX11_machinesWork_52 : decode cX11_machinesWork 52 = .ok (.putfield 375, 3) := by decide +kernel
theorem dX11_machinesWork_55 : decode cX11_machinesWork 55 = .ok (.aload_n 0, 1) := by decide +kernel
theorem dX11_machinesWork_56 : decode cX11_machinesWork 56 = .ok (.aload_n 2, 1) := by decide +kernel
theorem dX11_machinesWork_57 : decode cX11_machinesWork 57 = .ok (.aload_n 0, 1) := by decide +kernel
theorem dX11_machinesWork_58 : decode cX11_machinesWork 58 = .ok (.getfield 34, 3) := by decide +kernel
theorem dX11_machinesWork_61 : decode cX11_machinesWork 61 = .ok (.iload_n 1, 1) := by decide +kernel
theorem dX11_machinesWork_62 : decode cX11_machinesWork 62 = .ok (.aaload, 1) := by decide +kernel
theorem dX11_machinesWork_63 : decode cX11_machinesWork 63 = .ok (.getfield 162, 3) := by decide +kernel
theorem dX11_machinesWork_66 : decode cX11_machinesWork 66 = .ok (.invokevirtual 512, 3) := by decide +kernel
theorem dX11_machinesWork_69 : decode cX11_machinesWork 69 = .ok (.iinc 1 1, 3) := by decide +kernel
theorem dX11_machinesWork_72 : decode cX11_machinesWork 72 = .ok (.goto (-70), 3) := by decide +kernel
theorem dX11_machinesWork_75 : decode cX11_machinesWork 75 = .ok (.return_, 1) := by decide +kernel
theorem dX11_boreOn_0 : decode cX11_boreOn 0 = .ok (.aload_n 1, 1) := by decide +kernel
theorem dX11_boreOn_1 : decode cX11_boreOn 1 = .ok (.getfield 184, 3) := by decide +kernel
theorem dX11_boreOn_4 : decode cX11_boreOn 4 = .ok (.iconst 1, 1) := by decide +kernel
theorem dX11_boreOn_5 : decode cX11_boreOn 5 = .ok (.iadd, 1) := by decide +kernel
theorem dX11_boreOn_6 : decode cX11_boreOn 6 = .ok (.istore_n 3, 1) := by decide +kernel
theorem dX11_boreOn_7 : decode cX11_boreOn 7 = .ok (.iload_n 3, 1) := by decide +kernel
theorem dX11_boreOn_8 : decode cX11_boreOn 8 = .ok (.aload_n 1, 1) := by decide +kernel
theorem dX11_boreOn_9 : decode cX11_boreOn 9 = .ok (.getfield 178, 3) := by decide +kernel
theorem dX11_boreOn_12 : decode cX11_boreOn 12 = .ok (.if_icmp .gt 204, 3) := by decide +kernel
theorem dX11_boreOn_15 : decode cX11_boreOn 15 = .ok (.aload_n 1, 1) := by decide +kernel
theorem dX11_boreOn_16 : decode cX11_boreOn 16 = .ok (.getfield 174, 3) := by decide +kernel
theorem dX11_boreOn_19 : decode cX11_boreOn 19 = .ok (.ifCond .ne 197, 3) := by decide +kernel
theorem dX11_boreOn_22 : decode cX11_boreOn 22 = .ok (.aload_n 1, 1) := by decide +kernel
theorem dX11_boreOn_23 : decode cX11_boreOn 23 = .ok (.getfield 516, 3) := by decide +kernel
theorem dX11_boreOn_26 : decode cX11_boreOn 26 = .ok (.aload_n 1, 1) := by decide +kernel
theorem dX11_boreOn_27 : decode cX11_boreOn 27 = .ok (.getfield 181, 3) := by decide +kernel
theorem dX11_boreOn_30 : decode cX11_boreOn 30 = .ok (.iload_n 3, 1) := by decide +kernel
theorem dX11_boreOn_31 : decode cX11_boreOn 31 = .ok (.iaload, 1) := by decide +kernel
theorem dX11_boreOn_32 : decode cX11_boreOn 32 = .ok (.iadd, 1) := by decide +kernel
theorem dX11_boreOn_33 : decode cX11_boreOn 33 = .ok (.iconst 0, 1) := by decide +kernel
theorem dX11_boreOn_34 : decode cX11_boreOn 34 = .ok (.bipush 31, 2) := by decide +kernel
theorem dX11_boreOn_36 : decode cX11_boreOn 36 = .ok (.invokestatic 466, 3) := by decide +kernel
theorem dX11_boreOn_39 : decode cX11_boreOn 39 = .ok (.istore 4, 2) := by decide +kernel
theorem dX11_boreOn_41 : decode cX11_boreOn 41 = .ok (.iload 4, 2) := by decide +kernel
theorem dX11_boreOn_43 : decode cX11_boreOn 43 = .ok (.bipush 60, 2) := by decide +kernel
theorem dX11_boreOn_45 : decode cX11_boreOn 45 = .ok (.imul, 1) := by decide +kernel
theorem dX11_boreOn_46 : decode cX11_boreOn 46 = .ok (.iload_n 3, 1) := by decide +kernel
theorem dX11_boreOn_47 : decode cX11_boreOn 47 = .ok (.iadd, 1) := by decide +kernel
theorem dX11_boreOn_48 : decode cX11_boreOn 48 = .ok (.iconst 1, 1) := by decide +kernel
theorem dX11_boreOn_49 : decode cX11_boreOn 49 = .ok (.isub, 1) := by decide +kernel
theorem dX11_boreOn_50 : decode cX11_boreOn 50 = .ok (.istore 5, 2) := by decide +kernel
theorem dX11_boreOn_52 : decode cX11_boreOn 52 = .ok (.aload_n 0, 1) := by decide +kernel
theorem dX11_boreOn_53 : decode cX11_boreOn 53 = .ok (.getfield 10, 3) := by decide +kernel
theorem dX11_boreOn_56 : decode cX11_boreOn 56 = .ok (.getfield 108, 3) := by decide +kernel
theorem dX11_boreOn_59 : decode cX11_boreOn 59 = .ok (.iload 5, 2) := by decide +kernel
theorem dX11_boreOn_61 : decode cX11_boreOn 61 = .ok (.iaload, 1) := by decide +kernel
theorem dX11_boreOn_62 : decode cX11_boreOn 62 = .ok (.iconst 1, 1) := by decide +kernel
theorem dX11_boreOn_63 : decode cX11_boreOn 63 = .ok (.if_icmp .ne 7, 3) := by decide +kernel
theorem dX11_boreOn_66 : decode cX11_boreOn 66 = .ok (.iconst 1, 1) := by decide +kernel
theorem dX11_boreOn_67 : decode cX11_boreOn 67 = .ok (.goto 4, 3) := by decide +kernel
theorem dX11_boreOn_70 : decode cX11_boreOn 70 = .ok (.iconst 0, 1) := by decide +kernel
theorem dX11_boreOn_71 : decode cX11_boreOn 71 = .ok (.istore 6, 2) := by decide +kernel
theorem dX11_boreOn_73 : decode cX11_boreOn 73 = .ok (.iload 6, 2) := by decide +kernel
theorem dX11_boreOn_75 : decode cX11_boreOn 75 = .ok (.ifCond .eq 7, 3) := by decide +kernel
theorem dX11_boreOn_78 : decode cX11_boreOn 78 = .ok (.iconst 0, 1) := by decide +kernel
theorem dX11_boreOn_79 : decode cX11_boreOn 79 = .ok (.goto 15, 3) := by decide +kernel
theorem dX11_boreOn_82 : decode cX11_boreOn 82 = .ok (.iload_n 2, 1) := by decide +kernel
theorem dX11_boreOn_83 : decode cX11_boreOn 83 = .ok (.aload_n 0, 1) := by decide +kernel
theorem dX11_boreOn_84 : decode cX11_boreOn 84 = .ok (.getfield 10, 3) := by decide +kernel
theorem dX11_boreOn_87 : decode cX11_boreOn 87 = .ok (.getfield 105, 3) := by decide +kernel
theorem dX11_boreOn_90 : decode cX11_boreOn 90 = .ok (.iload 5, 2) := by decide +kernel
theorem dX11_boreOn_92 : decode cX11_boreOn 92 = .ok (.iaload, 1) := by decide +kernel
theorem dX11_boreOn_93 : decode cX11_boreOn 93 = .ok (.imul, 1) := by decide +kernel
theorem dX11_boreOn_94 : decode cX11_boreOn 94 = .ok (.istore 7, 2) := by decide +kernel
theorem dX11_boreOn_96 : decode cX11_boreOn 96 = .ok (.iload 7, 2) := by decide +kernel
theorem dX11_boreOn_98 : decode cX11_boreOn 98 = .ok (.aload_n 1, 1) := by decide +kernel
theorem dX11_boreOn_99 : decode cX11_boreOn 99 = .ok (.getfield 375, 3) := by decide +kernel
theorem dX11_boreOn_102 : decode cX11_boreOn 102 = .ok (.if_icmp .le 4, 3) := by decide +kernel
theorem dX11_boreOn_105 : decode cX11_boreOn 105 = .ok (.return_, 1) := by decide +kernel
theorem dX11_boreOn_106 : decode cX11_boreOn 106 = .ok (.aload_n 1, 1) := by decide +kernel
theorem dX11_boreOn_107 : decode cX11_boreOn 107 = .ok (.dup, 1) := by decide +kernel
theorem dX11_boreOn_108 : decode cX11_boreOn 108 = .ok (.getfield 375, 3) := by decide +kernel
theorem dX11_boreOn_111 : decode cX11_boreOn 111 = .ok (.iload 7, 2) := by decide +kernel
theorem dX11_boreOn_113 : decode cX11_boreOn 113 = .ok (.isub, 1) := by decide +kernel
theorem dX11_boreOn_114 : decode cX11_boreOn 114 = .ok (.putfield 375, 3) := by decide +kernel
theorem dX11_boreOn_117 : decode cX11_boreOn 117 = .ok (.aload_n 1, 1) := by decide +kernel
theorem dX11_boreOn_118 : decode cX11_boreOn 118 = .ok (.iload 4, 2) := by decide +kernel
theorem dX11_boreOn_120 : decode cX11_boreOn 120 = .ok (.putfield 516, 3) := by decide +kernel
theorem dX11_boreOn_123 : decode cX11_boreOn 123 = .ok (.aload_n 1, 1) := by decide +kernel
theorem dX11_boreOn_124 : decode cX11_boreOn 124 = .ok (.iload_n 3, 1) := by decide +kernel
theorem dX11_boreOn_125 : decode cX11_boreOn 125 = .ok (.putfield 184, 3) := by decide +kernel
theorem dX11_boreOn_128 : decode cX11_boreOn 128 = .ok (.aload_n 0, 1) := by decide +kernel
theorem dX11_boreOn_129 : decode cX11_boreOn 129 = .ok (.dup, 1) := by decide +kernel
theorem dX11_boreOn_130 : decode cX11_boreOn 130 = .ok (.getfield 457, 3) := by decide +kernel
theorem dX11_boreOn_133 : decode cX11_boreOn 133 = .ok (.iconst 1, 1) := by decide +kernel
theorem dX11_boreOn_134 : decode cX11_boreOn 134 = .ok (.iadd, 1) := by decide +kernel
theorem dX11_boreOn_135 : decode cX11_boreOn 135 = .ok (.putfield 457, 3) := by decide +kernel
theorem dX11_boreOn_138 : decode cX11_boreOn 138 = .ok (.aload_n 0, 1) := by decide +kernel
theorem dX11_boreOn_139 : decode cX11_boreOn 139 = .ok (.getfield 28, 3) := by decide +kernel
theorem dX11_boreOn_142 : decode cX11_boreOn 142 = .ok (.iload 4, 2) := by decide +kernel
theorem dX11_boreOn_144 : decode cX11_boreOn 144 = .ok (.iload_n 3, 1) := by decide +kernel
theorem dX11_boreOn_145 : decode cX11_boreOn 145 = .ok (.invokevirtual 519, 3) := by decide +kernel
theorem dX11_boreOn_148 : decode cX11_boreOn 148 = .ok (.istore 8, 2) := by decide +kernel
theorem dX11_boreOn_150 : decode cX11_boreOn 150 = .ok (.aload_n 1, 1) := by decide +kernel
theorem dX11_boreOn_151 : decode cX11_boreOn 151 = .ok (.getfield 187, 3) := by decide +kernel
theorem dX11_boreOn_154 : decode cX11_boreOn 154 = .ok (.iload_n 3, 1) := by decide +kernel
theorem dX11_boreOn_155 : decode cX11_boreOn 155 = .ok (.iload 8, 2) := by decide +kernel
theorem dX11_boreOn_157 : decode cX11_boreOn 157 = .ok (.ifCond .eq 7, 3) := by decide +kernel
theorem dX11_boreOn_160 : decode cX11_boreOn 160 = .ok (.iconst 2, 1) := by decide +kernel
theorem dX11_boreOn_161 : decode cX11_boreOn 161 = .ok (.goto 13, 3) := by decide +kernel
theorem dX11_boreOn_164 : decode cX11_boreOn 164 = .ok (.iload 6, 2) := by decide +kernel
theorem dX11_boreOn_166 : decode cX11_boreOn 166 = .ok (.ifCond .eq 7, 3) := by decide +kernel
theorem dX11_boreOn_169 : decode cX11_boreOn 169 = .ok (.iconst 1, 1) := by decide +kernel
theorem dX11_boreOn_170 : decode cX11_boreOn 170 = .ok (.goto 4, 3) := by decide +kernel
theorem dX11_boreOn_173 : decode cX11_boreOn 173 = .ok (.iconst 0, 1) := by decide +kernel
theorem dX11_boreOn_174 : decode cX11_boreOn 174 = .ok (.iastore, 1) := by decide +kernel
theorem dX11_boreOn_175 : decode cX11_boreOn 175 = .ok (.iload 8, 2) := by decide +kernel
theorem dX11_boreOn_177 : decode cX11_boreOn 177 = .ok (.ifCond .eq 33, 3) := by decide +kernel
theorem dX11_boreOn_180 : decode cX11_boreOn 180 = .ok (.aload_n 1, 1) := by decide +kernel
theorem dX11_boreOn_181 : decode cX11_boreOn 181 = .ok (.iconst 1, 1) := by decide +kernel
theorem dX11_boreOn_182 : decode cX11_boreOn 182 = .ok (.putfield 174, 3) := by decide +kernel
theorem dX11_boreOn_185 : decode cX11_boreOn 185 = .ok (.aload_n 0, 1) := by decide +kernel
theorem dX11_boreOn_186 : decode cX11_boreOn 186 = .ok (.dup, 1) := by decide +kernel
theorem dX11_boreOn_187 : decode cX11_boreOn 187 = .ok (.getfield 454, 3) := by decide +kernel
theorem dX11_boreOn_190 : decode cX11_boreOn 190 = .ok (.iconst 1, 1) := by decide +kernel
theorem dX11_boreOn_191 : decode cX11_boreOn 191 = .ok (.iadd, 1) := by decide +kernel
theorem dX11_boreOn_192 : decode cX11_boreOn 192 = .ok (.putfield 454, 3) := by decide +kernel
theorem dX11_boreOn_195 : decode cX11_boreOn 195 = .ok (.aload_n 0, 1) := by decide +kernel
theorem dX11_boreOn_196 : decode cX11_boreOn 196 = .ok (.aload_n 0, 1) := by decide +kernel
theorem dX11_boreOn_197 : decode cX11_boreOn 197 = .ok (.getfield 98, 3) := by decide +kernel
theorem dX11_boreOn_200 : decode cX11_boreOn 200 = .ok (.aload_n 0, 1) := by decide +kernel
theorem dX11_boreOn_201 : decode cX11_boreOn 201 = .ok (.getfield 168, 3) := by decide +kernel
theorem dX11_boreOn_204 : decode cX11_boreOn 204 = .ok (.invokestatic 255, 3) := by decide +kernel
theorem dX11_boreOn_207 : decode cX11_boreOn 207 = .ok (.putfield 98, 3) := by decide +kernel
theorem dX11_boreOn_210 : decode cX11_boreOn 210 = .ok (.iinc 3 1, 3) := by decide +kernel
theorem dX11_boreOn_213 : decode cX11_boreOn 213 = .ok (.goto (-206), 3) := by decide +kernel
theorem dX11_boreOn_216 : decode cX11_boreOn 216 = .ok (.return_, 1) := by decide +kernel
theorem dX11_menEat_0 : decode cX11_menEat 0 = .ok (.aload_n 0, 1) := by decide +kernel
theorem dX11_menEat_1 : decode cX11_menEat 1 = .ok (.iconst 1, 1) := by decide +kernel
theorem dX11_menEat_2 : decode cX11_menEat 2 = .ok (.iconst 0, 1) := by decide +kernel
theorem dX11_menEat_3 : decode cX11_menEat 3 = .ok (.aload_n 0, 1) := by decide +kernel
theorem dX11_menEat_4 : decode cX11_menEat 4 = .ok (.getfield 168, 3) := by decide +kernel
theorem dX11_menEat_7 : decode cX11_menEat 7 = .ok (.aload_n 0, 1) := by decide +kernel
theorem dX11_menEat_8 : decode cX11_menEat 8 = .ok (.getfield 168, 3) := by decide +kernel
theorem dX11_menEat_11 : decode cX11_menEat 11 = .ok (.invokevirtual 285, 3) := by decide +kernel
theorem dX11_menEat_14 : decode cX11_menEat 14 = .ok (.istore_n 1, 1) := by decide +kernel
theorem dX11_menEat_15 : decode cX11_menEat 15 = .ok (.iconst 0, 1) := by decide +kernel
theorem dX11_menEat_16 : decode cX11_menEat 16 = .ok (.istore_n 2, 1) := by decide +kernel
theorem dX11_menEat_17 : decode cX11_menEat 17 = .ok (.iload_n 2, 1) := by decide +kernel
theorem dX11_menEat_18 : decode cX11_menEat 18 = .ok (.aload_n 0, 1) := by decide +kernel
theorem dX11_menEat_19 : decode cX11_menEat 19 = .ok (.getfield 28, 3) := by decide +kernel
theorem dX11_menEat_22 : decode cX11_menEat 22 = .ok (.getfield 381, 3) := by decide +kernel
theorem dX11_menEat_25 : decode cX11_menEat 25 = .ok (.if_icmp .ge 65, 3) := by decide +kernel
theorem dX11_menEat_28 : decode cX11_menEat 28 = .ok (.aload_n 0, 1) := by decide +kernel
theorem dX11_menEat_29 : decode cX11_menEat 29 = .ok (.getfield 19, 3) := by decide +kernel
theorem dX11_menEat_32 : decode cX11_menEat 32 = .ok (.getfield 384, 3) := by decide +kernel
theorem dX11_menEat_35 : decode cX11_menEat 35 = .ok (.iload_n 2, 1) := by decide +kernel
theorem dX11_menEat_36 : decode cX11_menEat 36 = .ok (.iaload, 1) := by decide +kernel
theorem dX11_menEat_37 : decode cX11_menEat 37 = .ok (.iconst 1, 1) := by decide +kernel
theorem dX11_menEat_38 : decode cX11_menEat 38 = .ok (.if_icmp .ne 46, 3) := by decide +kernel
theorem dX11_menEat_41 : decode cX11_menEat 41 = .ok (.aload_n 0, 1) := by decide +kernel
theorem dX11_menEat_42 : decode cX11_menEat 42 = .ok (.getfield 76, 3) := by decide +kernel
theorem dX11_menEat_45 : decode cX11_menEat 45 = .ok (.aload_n 0, 1) := by decide +kernel
theorem dX11_menEat_46 : decode cX11_menEat 46 = .ok (.iload_n 1, 1) := by decide +kernel
theorem dX11_menEat_47 : decode cX11_menEat 47 = .ok (.iconst 0, 1) := by decide +kernel
theorem dX11_menEat_48 : decode cX11_menEat 48 = .ok (.iload_n 2, 1) := by decide +kernel
theorem dX11_menEat_49 : decode cX11_menEat 49 = .ok (.invokevirtual 289, 3) := by decide +kernel
theorem dX11_menEat_52 : decode cX11_menEat 52 = .ok (.iconst 0, 1) := by decide +kernel
theorem dX11_menEat_53 : decode cX11_menEat 53 = .ok (.bipush 9, 2) := by decide +kernel
theorem dX11_menEat_55 : decode cX11_menEat 55 = .ok (.invokestatic 466, 3) := by decide +kernel
theorem dX11_menEat_58 : decode cX11_menEat 58 = .ok (.invokevirtual 522, 3) := by decide +kernel
theorem dX11_menEat_61 : decode cX11_menEat 61 = .ok (.istore_n 3, 1) := by decide +kernel
theorem dX11_menEat_62 : decode cX11_menEat 62 = .ok (.aload_n 0, 1) := by decide +kernel
theorem dX11_menEat_63 : decode cX11_menEat 63 = .ok (.getfield 19, 3) := by decide +kernel
theorem dX11_menEat_66 : decode cX11_menEat 66 = .ok (.getfield 489, 3) := by decide +kernel
theorem dX11_menEat_69 : decode cX11_menEat 69 = .ok (.iload_n 2, 1) := by decide +kernel
theorem dX11_menEat_70 : decode cX11_menEat 70 = .ok (.aload_n 0, 1) := by decide +kernel
theorem dX11_menEat_71 : decode cX11_menEat 71 = .ok (.getfield 19, 3) := by decide +kernel
theorem dX11_menEat_74 : decode cX11_menEat 74 = .ok (.getfield 489, 3) := by decide +kernel
theorem dX11_menEat_77 : decode cX11_menEat 77 = .ok (.iload_n 2, 1) := by decide +kernel
theorem dX11_menEat_78 : decode cX11_menEat 78 = .ok (.iaload, 1) := by decide +kernel
theorem dX11_menEat_79 : decode cX11_menEat 79 = .ok (.iload_n 3, 1) := by decide +kernel
theorem dX11_menEat_80 : decode cX11_menEat 80 = .ok (.invokestatic 525, 3) := by decide +kernel
theorem dX11_menEat_83 : decode cX11_menEat 83 = .ok (.iastore, 1) := by decide +kernel
theorem dX11_menEat_84 : decode cX11_menEat 84 = .ok (.iinc 2 1, 3) := by decide +kernel
theorem dX11_menEat_87 : decode cX11_menEat 87 = .ok (.goto (-70), 3) := by decide +kernel
theorem dX11_menEat_90 : decode cX11_menEat 90 = .ok (.return_, 1) := by decide +kernel
theorem dX11_rockMoves_0 : decode cX11_rockMoves 0 = .ok (.iconst 0, 1) := by decide +kernel
theorem dX11_rockMoves_1 : decode cX11_rockMoves 1 = .ok (.istore_n 1, 1) := by decide +kernel
theorem dX11_rockMoves_2 : decode cX11_rockMoves 2 = .ok (.iload_n 1, 1) := by decide +kernel
theorem dX11_rockMoves_3 : decode cX11_rockMoves 3 = .ok (.aload_n 0, 1) := by decide +kernel
theorem dX11_rockMoves_4 : decode cX11_rockMoves 4 = .ok (.getfield 10, 3) := by decide +kernel
theorem dX11_rockMoves_7 : decode cX11_rockMoves 7 = .ok (.getfield 528, 3) := by decide +kernel
theorem dX11_rockMoves_10 : decode cX11_rockMoves 10 = .ok (.if_icmp .ge 91, 3) := by decide +kernel
theorem dX11_rockMoves_13 : decode cX11_rockMoves 13 = .ok (.aload_n 0, 1) := by decide +kernel
theorem dX11_rockMoves_14 : decode cX11_rockMoves 14 = .ok (.getfield 10, 3) := by decide +kernel
theorem dX11_rockMoves_17 : decode cX11_rockMoves 17 = .ok (.getfield 531, 3) := by decide +kernel
theorem dX11_rockMoves_20 : decode cX11_rockMoves 20 = .ok (.iload_n 1, 1) := by decide +kernel
theorem dX11_rockMoves_21 : decode cX11_rockMoves 21 = .ok (.iaload, 1) := by decide +kernel
theorem dX11_rockMoves_22 : decode cX11_rockMoves 22 = .ok (.istore_n 2, 1) := by decide +kernel
theorem dX11_rockMoves_23 : decode cX11_rockMoves 23 = .ok (.iload_n 2, 1) := by decide +kernel
theorem dX11_rockMoves_24 : decode cX11_rockMoves 24 = .ok (.invokestatic 101, 3) := by decide +kernel
theorem dX11_rockMoves_27 : decode cX11_rockMoves 27 = .ok (.istore_n 3, 1) := by decide +kernel
theorem dX11_rockMoves_28 : decode cX11_rockMoves 28 = .ok (.aload_n 0, 1) := by decide +kernel
theorem dX11_rockMoves_29 : decode cX11_rockMoves 29 = .ok (.getfield 10, 3) := by decide +kernel
theorem dX11_rockMoves_32 : decode cX11_rockMoves 32 = .ok (.getfield 534, 3) := by decide +kernel
theorem dX11_rockMoves_35 : decode cX11_rockMoves 35 = .ok (.iload_n 1, 1) := by decide +kernel
theorem dX11_rockMoves_36 : decode cX11_rockMoves 36 = .ok (.iaload, 1) := by decide +kernel
theorem dX11_rockMoves_37 : decode cX11_rockMoves 37 = .ok (.aload_n 0, 1) := by decide +kernel
theorem dX11_rockMoves_38 : decode cX11_rockMoves 38 = .ok (.getfield 168, 3) := by decide +kernel
theorem dX11_rockMoves_41 : decode cX11_rockMoves 41 = .ok (.if_icmp .ne 54, 3) := by decide +kernel
theorem dX11_rockMoves_44 : decode cX11_rockMoves 44 = .ok (.iload_n 3, 1) := by decide +kernel
theorem dX11_rockMoves_45 : decode cX11_rockMoves 45 = .ok (.ifCond .lt 50, 3) := by decide +kernel
theorem dX11_rockMoves_48 : decode cX11_rockMoves 48 = .ok (.aload_n 0, 1) := by decide +kernel
theorem dX11_rockMoves_49 : decode cX11_rockMoves 49 = .ok (.getfield 10, 3) := by decide +kernel
theorem dX11_rockMoves_52 : decode cX11_rockMoves 52 = .ok (.getfield 108, 3) := by decide +kernel
theorem dX11_rockMoves_55 : decode cX11_rockMoves 55 = .ok (.iload_n 3, 1) := by decide +kernel
theorem dX11_rockMoves_56 : decode cX11_rockMoves 56 = .ok (.iconst 0, 1) := by decide +kernel
theorem dX11_rockMoves_57 : decode cX11_rockMoves 57 = .ok (.iastore, 1) := by decide +kernel
theorem dX11_rockMoves_58 : decode cX11_rockMoves 58 = .ok (.aload_n 0, 1) := by decide +kernel
theorem dX11_rockMoves_59 : decode cX11_rockMoves 59 = .ok (.getfield 10, 3) := by decide +kernel
theorem dX11_rockMoves_62 : decode cX11_rockMoves 62 = .ok (.getfield 105, 3) := by decide +kernel
theorem dX11_rockMoves_65 : decode cX11_rockMoves 65 = .ok (.iload_n 3, 1) := by decide +kernel
theorem dX11_rockMoves_66 : decode cX11_rockMoves 66 = .ok (.bipush 9, 2) := by decide +kernel
theorem dX11_rockMoves_68 : decode cX11_rockMoves 68 = .ok (.iastore, 1) := by decide +kernel
theorem dX11_rockMoves_69 : decode cX11_rockMoves 69 = .ok (.aload_n 0, 1) := by decide +kernel
theorem dX11_rockMoves_70 : decode cX11_rockMoves 70 = .ok (.getfield 28, 3) := by decide +kernel
theorem dX11_rockMoves_73 : decode cX11_rockMoves 73 = .ok (.iload_n 2, 1) := by decide +kernel
theorem dX11_rockMoves_74 : decode cX11_rockMoves 74 = .ok (.bipush 100, 2) := by decide +kernel
theorem dX11_rockMoves_76 : decode cX11_rockMoves 76 = .ok (.idiv, 1) := by decide +kernel
theorem dX11_rockMoves_77 : decode cX11_rockMoves 77 = .ok (.iload_n 2, 1) := by decide +kernel
theorem dX11_rockMoves_78 : decode cX11_rockMoves 78 = .ok (.bipush 100, 2) := by decide +kernel
theorem dX11_rockMoves_80 : decode cX11_rockMoves 80 = .ok (.irem, 1) := by decide +kernel
theorem dX11_rockMoves_81 : decode cX11_rockMoves 81 = .ok (.invokevirtual 519, 3) := by decide +kernel
theorem dX11_rockMoves_84 : decode cX11_rockMoves 84 = .ok (.ifCond .eq 11, 3) := by decide +kernel
theorem dX11_rockMoves_87 : decode cX11_rockMoves 87 = .ok (.aload_n 0, 1) := by decide +kernel
theorem dX11_rockMoves_88 : decode cX11_rockMoves 88 = .ok (.getfield 28, 3) := by decide +kernel
theorem dX11_rockMoves_91 : decode cX11_rockMoves 91 = .ok (.iconst 1, 1) := by decide +kernel
theorem dX11_rockMoves_92 : decode cX11_rockMoves 92 = .ok (.putfield 537, 3) := by decide +kernel
theorem dX11_rockMoves_95 : decode cX11_rockMoves 95 = .ok (.iinc 1 1, 3) := by decide +kernel
theorem dX11_rockMoves_98 : decode cX11_rockMoves 98 = .ok (.goto (-96), 3) := by decide +kernel
theorem dX11_rockMoves_101 : decode cX11_rockMoves 101 = .ok (.return_, 1) := by decide +kernel
