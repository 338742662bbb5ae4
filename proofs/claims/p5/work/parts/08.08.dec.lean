theorem dX11_init_0 : decode cX11_init 0 = .ok (.aload_n 0, 1) := by decide +kernel
theorem dX11_init_1 : decode cX11_init 1 = .ok (.invokespecial 1, 3) := by decide +kernel
theorem dX11_init_4 : decode cX11_init 4 = .ok (.aload_n 0, 1) := by decide +kernel
theorem dX11_init_5 : decode cX11_init 5 = .ok (.new 7, 3) := by decide +kernel
theorem dX11_init_8 : decode cX11_init 8 = .ok (.dup, 1) := by decide +kernel
theorem dX11_init_9 : decode cX11_init 9 = .ok (.invokespecial 9, 3) := by decide +kernel
theorem dX11_init_12 : decode cX11_init 12 = .ok (.putfield 10, 3) := by decide +kernel
theorem dX11_init_15 : decode cX11_init 15 = .ok (.aload_n 0, 1) := by decide +kernel
theorem dX11_init_16 : decode cX11_init 16 = .ok (.new 16, 3) := by decide +kernel
theorem dX11_init_19 : decode cX11_init 19 = .ok (.dup, 1) := by decide +kernel
theorem dX11_init_20 : decode cX11_init 20 = .ok (.invokespecial 18, 3) := by decide +kernel
theorem dX11_init_23 : decode cX11_init 23 = .ok (.putfield 19, 3) := by decide +kernel
theorem dX11_init_26 : decode cX11_init 26 = .ok (.aload_n 0, 1) := by decide +kernel
theorem dX11_init_27 : decode cX11_init 27 = .ok (.new 23, 3) := by decide +kernel
theorem dX11_init_30 : decode cX11_init 30 = .ok (.dup, 1) := by decide +kernel
theorem dX11_init_31 : decode cX11_init 31 = .ok (.aload_n 0, 1) := by decide +kernel
theorem dX11_init_32 : decode cX11_init 32 = .ok (.getfield 19, 3) := by decide +kernel
theorem dX11_init_35 : decode cX11_init 35 = .ok (.invokespecial 25, 3) := by decide +kernel
theorem dX11_init_38 : decode cX11_init 38 = .ok (.putfield 28, 3) := by decide +kernel
theorem dX11_init_41 : decode cX11_init 41 = .ok (.aload_n 0, 1) := by decide +kernel
theorem dX11_init_42 : decode cX11_init 42 = .ok (.iconst 3, 1) := by decide +kernel
theorem dX11_init_43 : decode cX11_init 43 = .ok (.anewarray 32, 3) := by decide +kernel
theorem dX11_init_46 : decode cX11_init 46 = .ok (.putfield 34, 3) := by decide +kernel
theorem dX11_init_49 : decode cX11_init 49 = .ok (.iconst 0, 1) := by decide +kernel
theorem dX11_init_50 : decode cX11_init 50 = .ok (.istore_n 1, 1) := by decide +kernel
theorem dX11_init_51 : decode cX11_init 51 = .ok (.iload_n 1, 1) := by decide +kernel
theorem dX11_init_52 : decode cX11_init 52 = .ok (.iconst 3, 1) := by decide +kernel
theorem dX11_init_53 : decode cX11_init 53 = .ok (.if_icmp .ge 22, 3) := by decide +kernel
theorem dX11_init_56 : decode cX11_init 56 = .ok (.aload_n 0, 1) := by decide +kernel
theorem dX11_init_57 : decode cX11_init 57 = .ok (.getfield 34, 3) := by decide +kernel
theorem dX11_init_60 : decode cX11_init 60 = .ok (.iload_n 1, 1) := by decide +kernel
theorem dX11_init_61 : decode cX11_init 61 = .ok (.new 32, 3) := by decide +kernel
theorem dX11_init_64 : decode cX11_init 64 = .ok (.dup, 1) := by decide +kernel
theorem dX11_init_65 : decode cX11_init 65 = .ok (.invokespecial 38, 3) := by decide +kernel
theorem dX11_init_68 : decode cX11_init 68 = .ok (.aastore, 1) := by decide +kernel
theorem dX11_init_69 : decode cX11_init 69 = .ok (.iinc 1 1, 3) := by decide +kernel
theorem dX11_init_72 : decode cX11_init 72 = .ok (.goto (-21), 3) := by decide +kernel
theorem dX11_init_75 : decode cX11_init 75 = .ok (.aload_n 0, 1) := by decide +kernel
theorem dX11_init_76 : decode cX11_init 76 = .ok (.bipush 8, 2) := by decide +kernel
theorem dX11_init_78 : decode cX11_init 78 = .ok (.anewarray 39, 3) := by decide +kernel
theorem dX11_init_81 : decode cX11_init 81 = .ok (.putfield 41, 3) := by decide +kernel
theorem dX11_init_84 : decode cX11_init 84 = .ok (.aload_n 0, 1) := by decide +kernel
theorem dX11_init_85 : decode cX11_init 85 = .ok (.new 45, 3) := by decide +kernel
theorem dX11_init_88 : decode cX11_init 88 = .ok (.dup, 1) := by decide +kernel
theorem dX11_init_89 : decode cX11_init 89 = .ok (.invokespecial 47, 3) := by decide +kernel
theorem dX11_init_92 : decode cX11_init 92 = .ok (.putfield 48, 3) := by decide +kernel
theorem dX11_init_95 : decode cX11_init 95 = .ok (.aload_n 0, 1) := by decide +kernel
theorem dX11_init_96 : decode cX11_init 96 = .ok (.bipush 16, 2) := by decide +kernel
theorem dX11_init_98 : decode cX11_init 98 = .ok (.anewarray 52, 3) := by decide +kernel
theorem dX11_init_101 : decode cX11_init 101 = .ok (.putfield 54, 3) := by decide +kernel
theorem dX11_init_104 : decode cX11_init 104 = .ok (.aload_n 0, 1) := by decide +kernel
theorem dX11_init_105 : decode cX11_init 105 = .ok (.ldc 58, 2) := by decide +kernel
theorem dX11_init_107 : decode cX11_init 107 = .ok (.invokevirtual 60, 3) := by decide +kernel
theorem dX11_init_110 : decode cX11_init 110 = .ok (.newarray .int, 2) := by decide +kernel
theorem dX11_init_112 : decode cX11_init 112 = .ok (.putfield 66, 3) := by decide +kernel
theorem dX11_init_115 : decode cX11_init 115 = .ok (.aload_n 0, 1) := by decide +kernel
theorem dX11_init_116 : decode cX11_init 116 = .ok (.bipush 64, 2) := by decide +kernel
theorem dX11_init_118 : decode cX11_init 118 = .ok (.newarray .int, 2) := by decide +kernel
theorem dX11_init_120 : decode cX11_init 120 = .ok (.putfield 70, 3) := by decide +kernel
theorem dX11_init_123 : decode cX11_init 123 = .ok (.aload_n 0, 1) := by decide +kernel
theorem dX11_init_124 : decode cX11_init 124 = .ok (.new 73, 3) := by decide +kernel
theorem dX11_init_127 : decode cX11_init 127 = .ok (.dup, 1) := by decide +kernel
theorem dX11_init_128 : decode cX11_init 128 = .ok (.invokespecial 75, 3) := by decide +kernel
theorem dX11_init_131 : decode cX11_init 131 = .ok (.putfield 76, 3) := by decide +kernel
theorem dX11_init_134 : decode cX11_init 134 = .ok (.aload_n 0, 1) := by decide +kernel
theorem dX11_init_135 : decode cX11_init 135 = .ok (.new 80, 3) := by decide +kernel
theorem dX11_init_138 : decode cX11_init 138 = .ok (.dup, 1) := by decide +kernel
theorem dX11_init_139 : decode cX11_init 139 = .ok (.invokespecial 82, 3) := by decide +kernel
theorem dX11_init_142 : decode cX11_init 142 = .ok (.putfield 83, 3) := by decide +kernel
theorem dX11_init_145 : decode cX11_init 145 = .ok (.aload_n 0, 1) := by decide +kernel
theorem dX11_init_146 : decode cX11_init 146 = .ok (.bipush 6, 2) := by decide +kernel
theorem dX11_init_148 : decode cX11_init 148 = .ok (.anewarray 87, 3) := by decide +kernel
theorem dX11_init_151 : decode cX11_init 151 = .ok (.putfield 89, 3) := by decide +kernel
theorem dX11_init_154 : decode cX11_init 154 = .ok (.iconst 0, 1) := by decide +kernel
theorem dX11_init_155 : decode cX11_init 155 = .ok (.istore_n 1, 1) := by decide +kernel
theorem dX11_init_156 : decode cX11_init 156 = .ok (.iload_n 1, 1) := by decide +kernel
theorem dX11_init_157 : decode cX11_init 157 = .ok (.bipush 6, 2) := by decide +kernel
theorem dX11_init_159 : decode cX11_init 159 = .ok (.if_icmp .ge 22, 3) := by decide +kernel
theorem dX11_init_162 : decode cX11_init 162 = .ok (.aload_n 0, 1) := by decide +kernel
theorem dX11_init_163 : decode cX11_init 163 = .ok (.getfield 89, 3) := by decide +kernel
theorem dX11_init_166 : decode cX11_init 166 = .ok (.iload_n 1, 1) := by decide +kernel
theorem dX11_init_167 : decode cX11_init 167 = .ok (.new 87, 3) := by decide +kernel
theorem dX11_init_170 : decode cX11_init 170 = .ok (.dup, 1) := by decide +kernel
theorem dX11_init_171 : decode cX11_init 171 = .ok (.invokespecial 93, 3) := by decide +kernel
theorem dX11_init_174 : decode cX11_init 174 = .ok (.aastore, 1) := by decide +kernel
theorem dX11_init_175 : decode cX11_init 175 = .ok (.iinc 1 1, 3) := by decide +kernel
theorem dX11_init_178 : decode cX11_init 178 = .ok (.goto (-22), 3) := by decide +kernel
theorem dX11_init_181 : decode cX11_init 181 = .ok (.aload_n 0, 1) := by decide +kernel
theorem dX11_init_182 : decode cX11_init 182 = .ok (.iconst 2, 1) := by decide +kernel
theorem dX11_init_183 : decode cX11_init 183 = .ok (.putfield 94, 3) := by decide +kernel
theorem dX11_init_186 : decode cX11_init 186 = .ok (.aload_n 0, 1) := by decide +kernel
theorem dX11_init_187 : decode cX11_init 187 = .ok (.sipush 1700, 3) := by decide +kernel
theorem dX11_init_190 : decode cX11_init 190 = .ok (.putfield 98, 3) := by decide +kernel
theorem dX11_init_193 : decode cX11_init 193 = .ok (.return_, 1) := by decide +kernel
theorem dX11_hard_0 : decode cX11_hard 0 = .ok (.iload_n 1, 1) := by decide +kernel
theorem dX11_hard_1 : decode cX11_hard 1 = .ok (.invokestatic 101, 3) := by decide +kernel
theorem dX11_hard_4 : decode cX11_hard 4 = .ok (.istore_n 3, 1) := by decide +kernel
theorem dX11_hard_5 : decode cX11_hard 5 = .ok (.iload_n 3, 1) := by decide +kernel
theorem dX11_hard_6 : decode cX11_hard 6 = .ok (.ifCond .lt 14, 3) := by decide +kernel
theorem dX11_hard_9 : decode cX11_hard 9 = .ok (.iload_n 2, 1) := by decide +kernel
theorem dX11_hard_10 : decode cX11_hard 10 = .ok (.iconst 1, 1) := by decide +kernel
theorem dX11_hard_11 : decode cX11_hard 11 = .ok (.if_icmp .lt 9, 3) := by decide +kernel
theorem dX11_hard_14 : decode cX11_hard 14 = .ok (.iload_n 2, 1) := by decide +kernel
theorem dX11_hard_15 : decode cX11_hard 15 = .ok (.bipush 9, 2) := by decide +kernel
theorem dX11_hard_17 : decode cX11_hard 17 = .ok (.if_icmp .le 5, 3) := by decide +kernel
theorem dX11_hard_20 : decode cX11_hard 20 = .ok (.iconst (-1), 1) := by decide +kernel
theorem dX11_hard_21 : decode cX11_hard 21 = .ok (.ireturn, 1) := by decide +kernel
theorem dX11_hard_22 : decode cX11_hard 22 = .ok (.aload_n 0, 1) := by decide +kernel
theorem dX11_hard_23 : decode cX11_hard 23 = .ok (.getfield 10, 3) := by decide +kernel
theorem dX11_hard_26 : decode cX11_hard 26 = .ok (.getfield 105, 3) := by decide +kernel
theorem dX11_hard_29 : decode cX11_hard 29 = .ok (.iload_n 3, 1) := by decide +kernel
theorem dX11_hard_30 : decode cX11_hard 30 = .ok (.iaload, 1) := by decide +kernel
theorem dX11_hard_31 : decode cX11_hard 31 = .ok (.istore 4, 2) := by decide +kernel
theorem dX11_hard_33 : decode cX11_hard 33 = .ok (.aload_n 0, 1) := by decide +kernel
theorem dX11_hard_34 : decode cX11_hard 34 = .ok (.getfield 10, 3) := by decide +kernel
theorem dX11_hard_37 : decode cX11_hard 37 = .ok (.getfield 105, 3) := by decide +kernel
theorem dX11_hard_40 : decode cX11_hard 40 = .ok (.iload_n 3, 1) := by decide +kernel
theorem dX11_hard_41 : decode cX11_hard 41 = .ok (.iload_n 2, 1) := by decide +kernel
theorem dX11_hard_42 : decode cX11_hard 42 = .ok (.iastore, 1) := by decide +kernel
theorem dX11_hard_43 : decode cX11_hard 43 = .ok (.iload 4, 2) := by decide +kernel
theorem dX11_hard_45 : decode cX11_hard 45 = .ok (.ireturn, 1) := by decide +kernel
theorem dX11_open_0 : decode cX11_open 0 = .ok (.iload_n 1, 1) := by decide +kernel
theorem dX11_open_1 : decode cX11_open 1 = .ok (.invokestatic 101, 3) := by decide +kernel
theorem dX11_open_4 : decode cX11_open 4 = .ok (.istore_n 3, 1) := by decide +kernel
theorem dX11_open_5 : decode cX11_open 5 = .ok (.iload_n 3, 1) := by decide +kernel
theorem dX11_open_6 : decode cX11_open 6 = .ok (.ifCond .lt 12, 3) := by decide +kernel
theorem dX11_open_9 : decode cX11_open 9 = .ok (.iload_n 2, 1) := by decide +kernel
theorem dX11_open_10 : decode cX11_open 10 = .ok (.ifCond .lt 8, 3) := by decide +kernel
theorem dX11_open_13 : decode cX11_open 13 = .ok (.iload_n 2, 1) := by decide +kernel
theorem dX11_open_14 : decode cX11_open 14 = .ok (.iconst 1, 1) := by decide +kernel
theorem dX11_open_15 : decode cX11_open 15 = .ok (.if_icmp .le 5, 3) := by decide +kernel
theorem dX11_open_18 : decode cX11_open 18 = .ok (.iconst (-1), 1) := by decide +kernel
theorem dX11_open_19 : decode cX11_open 19 = .ok (.ireturn, 1) := by decide +kernel
theorem dX11_open_20 : decode cX11_open 20 = .ok (.aload_n 0, 1) := by decide +kernel
theorem dX11_open_21 : decode cX11_open 21 = .ok (.getfield 10, 3) := by decide +kernel
theorem dX11_open_24 : decode cX11_open 24 = .ok (.getfield 108, 3) := by decide +kernel
theorem dX11_open_27 : decode cX11_open 27 = .ok (.iload_n 3, 1) := by decide +kernel
theorem dX11_open_28 : decode cX11_open 28 = .ok (.iaload, 1) := by decide +kernel
theorem dX11_open_29 : decode cX11_open 29 = .ok (.istore 4, 2) := by decide +kernel
theorem dX11_open_31 : decode cX11_open 31 = .ok (.aload_n 0, 1) := by decide +kernel
theorem dX11_open_32 : decode cX11_open 32 = .ok (.getfield 10, 3) := by decide +kernel
theorem dX11_open_35 : decode cX11_open 35 = .ok (.getfield 108, 3) := by decide +kernel
theorem dX11_open_38 : decode cX11_open 38 = .ok (.iload_n 3, 1) := by decide +kernel
theorem dX11_open_39 : decode cX11_open 39 = .ok (.iload_n 2, 1) := by decide +kernel
theorem dX11_open_40 : decode cX11_open 40 = .ok (.iastore, 1) := by decide +kernel
theorem dX11_open_41 : decode cX11_open 41 = .ok (.iload 4, 2) := by decide +kernel
theorem dX11_open_43 : decode cX11_open 43 = .ok (.ireturn, 1) := by decide +kernel
theorem dX11_ofCell_0 : decode cX11_ofCell 0 = .ok (.iload_n 1, 1) := by decide +kernel
theorem dX11_ofCell_1 : decode cX11_ofCell 1 = .ok (.invokestatic 101, 3) := by decide +kernel
theorem dX11_ofCell_4 : decode cX11_ofCell 4 = .ok (.istore_n 3, 1) := by decide +kernel
theorem dX11_ofCell_5 : decode cX11_ofCell 5 = .ok (.iload_n 3, 1) := by decide +kernel
theorem dX11_ofCell_6 : decode cX11_ofCell 6 = .ok (.ifCond .lt 12, 3) := by decide +kernel
theorem dX11_ofCell_9 : decode cX11_ofCell 9 = .ok (.iload_n 2, 1) := by decide +kernel
theorem dX11_ofCell_10 : decode cX11_ofCell 10 = .ok (.ifCond .lt 8, 3) := by decide +kernel
theorem dX11_ofCell_13 : decode cX11_ofCell 13 = .ok (.iload_n 2, 1) := by decide +kernel
theorem dX11_ofCell_14 : decode cX11_ofCell 14 = .ok (.iconst 1, 1) := by decide +kernel
theorem dX11_ofCell_15 : decode cX11_ofCell 15 = .ok (.if_icmp .le 5, 3) := by decide +kernel
theorem dX11_ofCell_18 : decode cX11_ofCell 18 = .ok (.iconst (-1), 1) := by decide +kernel
theorem dX11_ofCell_19 : decode cX11_ofCell 19 = .ok (.ireturn, 1) := by decide +kernel
theorem dX11_ofCell_20 : decode cX11_ofCell 20 = .ok (.iload_n 2, 1) := by decide +kernel
theorem dX11_ofCell_21 : decode cX11_ofCell 21 = .ok (.ifCond .ne 15, 3) := by decide +kernel
theorem dX11_ofCell_24 : decode cX11_ofCell 24 = .ok (.aload_n 0, 1) := by decide +kernel
theorem dX11_ofCell_25 : decode cX11_ofCell 25 = .ok (.getfield 10, 3) := by decide +kernel
theorem dX11_ofCell_28 : decode cX11_ofCell 28 = .ok (.getfield 105, 3) := by decide +kernel
theorem dX11_ofCell_31 : decode cX11_ofCell 31 = .ok (.iload_n 3, 1) := by decide +kernel
theorem dX11_ofCell_32 : decode cX11_ofCell 32 = .ok (.iaload, 1) := by decide +kernel
theorem dX11_ofCell_33 : decode cX11_ofCell 33 = .ok (.goto 12, 3) := by decide +kernel
theorem dX11_ofCell_36 : decode cX11_ofCell 36 = .ok (.aload_n 0, 1) := by decide +kernel
theorem dX11_ofCell_37 : decode cX11_ofCell 37 = .ok (.getfield 10, 3) := by decide +kernel
theorem dX11_ofCell_40 : decode cX11_ofCell 40 = .ok (.getfield 108, 3) := by decide +kernel
theorem dX11_ofCell_43 : decode cX11_ofCell 43 = .ok (.iload_n 3, 1) := by decide +kernel
theorem dX11_ofCell_44 : decode cX11_ofCell 44 = .ok (.iaload, 1) := by decide +kernel
theorem dX11_ofCell_45 : decode cX11_ofCell 45 = .ok (.ireturn, 1) := by decide +kernel
theorem dX11_body_0 : decode cX11_body 0 = .ok (.iload_n 1, 1) := by decide +kernel
theorem dX11_body_1 : decode cX11_body 1 = .ok (.ifCond .eq 10, 3) := by decide +kernel
theorem dX11_body_4 : decode cX11_body 4 = .ok (.iload_n 1, 1) := by decide +kernel
theorem dX11_body_5 : decode cX11_body 5 = .ok (.iconst 1, 1) := by decide +kernel
theorem dX11_body_6 : decode cX11_body 6 = .ok (.if_icmp .eq 5, 3) := by decide +kernel
theorem dX11_body_9 : decode cX11_body 9 = .ok (.iconst (-1), 1) := by decide +kernel
theorem dX11_body_10 : decode cX11_body 10 = .ok (.ireturn, 1) := by decide +kernel
theorem dX11_body_11 : decode cX11_body 11 = .ok (.aload_n 0, 1) := by decide +kernel
theorem dX11_body_12 : decode cX11_body 12 = .ok (.getfield 28, 3) := by decide +kernel
theorem dX11_body_15 : decode cX11_body 15 = .ok (.iload_n 1, 1) := by decide +kernel
theorem dX11_body_16 : decode cX11_body 16 = .ok (.invokevirtual 111, 3) := by decide +kernel
theorem dX11_body_19 : decode cX11_body 19 = .ok (.ireturn, 1) := by decide +kernel
theorem dX11_hole_0 : decode cX11_hole 0 = .ok (.iload_n 1, 1) := by decide +kernel
theorem dX11_hole_1 : decode cX11_hole 1 = .ok (.iconst 2, 1) := by decide +kernel
theorem dX11_hole_2 : decode cX11_hole 2 = .ok (.if_icmp .lt 12, 3) := by decide +kernel
theorem dX11_hole_5 : decode cX11_hole 5 = .ok (.iload_n 1, 1) := by decide +kernel
theorem dX11_hole_6 : decode cX11_hole 6 = .ok (.iconst 5, 1) := by decide +kernel
theorem dX11_hole_7 : decode cX11_hole 7 = .ok (.if_icmp .gt 7, 3) := by decide +kernel
theorem dX11_hole_10 : decode cX11_hole 10 = .ok (.iload_n 2, 1) := by decide +kernel
theorem dX11_hole_11 : decode cX11_hole 11 = .ok (.ifCond .ge 5, 3) := by decide +kernel
theorem dX11_hole_14 : decode cX11_hole 14 = .ok (.iconst (-1), 1) := by decide +kernel
theorem dX11_hole_15 : decode cX11_hole 15 = .ok (.ireturn, 1) := by decide +kernel
theorem dX11_hole_16 : decode cX11_hole 16 = .ok (.iload_n 2, 1) := by decide +kernel
theorem dX11_hole_17 : decode cX11_hole 17 = .ok (.bipush 100, 2) := by decide +kernel
theorem dX11_hole_19 : decode cX11_hole 19 = .ok (.idiv, 1) := by decide +kernel
theorem dX11_hole_20 : decode cX11_hole 20 = .ok (.istore_n 3, 1) := by decide +kernel
theorem dX11_hole_21 : decode cX11_hole 21 = .ok (.iload_n 2, 1) := by decide +kernel
theorem dX11_hole_22 : decode cX11_hole 22 = .ok (.bipush 100, 2) := by decide +kernel
theorem dX11_hole_24 : decode cX11_hole 24 = .ok (.irem, 1) := by decide +kernel
theorem dX11_hole_25 : decode cX11_hole 25 = .ok (.istore 4, 2) := by decide +kernel
theorem dX11_hole_27 : decode cX11_hole 27 = .ok (.iload_n 3, 1) := by decide +kernel
theorem dX11_hole_28 : decode cX11_hole 28 = .ok (.bipush 32, 2) := by decide +kernel
theorem dX11_hole_30 : decode cX11_hole 30 = .ok (.if_icmp .ge 9, 3) := by decide +kernel
theorem dX11_hole_33 : decode cX11_hole 33 = .ok (.iload 4, 2) := by decide +kernel
theorem dX11_hole_35 : decode cX11_hole 35 = .ok (.iconst 1, 1) := by decide +kernel
theorem dX11_hole_36 : decode cX11_hole 36 = .ok (.if_icmp .ge 5, 3) := by decide +kernel
theorem dX11_hole_39 : decode cX11_hole 39 = .ok (.iconst (-1), 1) := by decide +kernel
theorem dX11_hole_40 : decode cX11_hole 40 = .ok (.ireturn, 1) := by decide +kernel
theorem dX11_hole_41 : decode cX11_hole 41 = .ok (.aload_n 0, 1) := by decide +kernel
theorem dX11_hole_42 : decode cX11_hole 42 = .ok (.getfield 28, 3) := by decide +kernel
theorem dX11_hole_45 : decode cX11_hole 45 = .ok (.iload_n 1, 1) := by decide +kernel
theorem dX11_hole_46 : decode cX11_hole 46 = .ok (.iload_n 3, 1) := by decide +kernel
theorem dX11_hole_47 : decode cX11_hole 47 = .ok (.iload 4, 2) := by decide +kernel
theorem dX11_hole_49 : decode cX11_hole 49 = .ok (.invokevirtual 114, 3) := by decide +kernel
theorem dX11_hole_52 : decode cX11_hole 52 = .ok (.ireturn, 1) := by decide +kernel
theorem dX11_shelter_0 : decode cX11_shelter 0 = .ok (.iload_n 1, 1) := by decide +kernel
theorem dX11_shelter_1 : decode cX11_shelter 1 = .ok (.invokestatic 118, 3) := by decide +kernel
theorem dX11_shelter_4 : decode cX11_shelter 4 = .ok (.ifCond .eq 10, 3) := by decide +kernel
theorem dX11_shelter_7 : decode cX11_shelter 7 = .ok (.iload_n 2, 1) := by decide +kernel
theorem dX11_shelter_8 : decode cX11_shelter 8 = .ok (.invokestatic 122, 3) := by decide +kernel
theorem dX11_shelter_11 : decode cX11_shelter 11 = .ok (.ifCond .ne 5, 3) := by decide +kernel
theorem dX11_shelter_14 : decode cX11_shelter 14 = .ok (.iconst (-1), 1) := by decide +kernel
theorem dX11_shelter_15 : decode cX11_shelter 15 = .ok (.ireturn, 1) := by decide +kernel
theorem dX11_shelter_16 : decode cX11_shelter 16 = .ok (.aload_n 0, 1) := by decide +kernel
theorem dX11_shelter_17 : decode cX11_shelter 17 = .ok (.getfield 28, 3) := by decide +kernel
theorem dX11_shelter_20 : decode cX11_shelter 20 = .ok (.getfield 125, 3) := by decide +kernel
theorem dX11_shelter_23 : decode cX11_shelter 23 = .ok (.ifCond .lt 6, 3) := by decide +kernel
theorem dX11_shelter_26 : decode cX11_shelter 26 = .ok (.bipush (-2), 2) := by decide +kernel
theorem dX11_shelter_28 : decode cX11_shelter 28 = .ok (.ireturn, 1) := by decide +kernel
theorem dX11_shelter_29 : decode cX11_shelter 29 = .ok (.aload_n 0, 1) := by decide +kernel
theorem dX11_shelter_30 : decode cX11_shelter 30 = .ok (.getfield 28, 3) := by decide +kernel
theorem dX11_shelter_33 : decode cX11_shelter 33 = .ok (.iload_n 1, 1) := by decide +kernel
theorem dX11_shelter_34 : decode cX11_shelter 34 = .ok (.bipush 100, 2) := by decide +kernel
theorem dX11_shelter_36 : decode cX11_shelter 36 = .ok (.idiv, 1) := by decide +kernel
theorem dX11_shelter_37 : decode cX11_shelter 37 = .ok (.iload_n 1, 1) := by decide +kernel
theorem dX11_shelter_38 : decode cX11_shelter 38 = .ok (.bipush 100, 2) := by decide +kernel
theorem dX11_shelter_40 : decode cX11_shelter 40 = .ok (.irem, 1) := by decide +kernel
theorem dX11_shelter_41 : decode cX11_shelter 41 = .ok (.iload_n 2, 1) := by decide +kernel
theorem dX11_shelter_42 : decode cX11_shelter 42 = .ok (.invokevirtual 128, 3) := by decide +kernel
theorem dX11_shelter_45 : decode cX11_shelter 45 = .ok (.ireturn, 1) := by decide +kernel
theorem dX11_man_0 : decode cX11_man 0 = .ok (.iload_n 1, 1) := by decide +kernel
theorem dX11_man_1 : decode cX11_man 1 = .ok (.ifCond .lt 20, 3) := by decide +kernel
theorem dX11_man_4 : decode cX11_man 4 = .ok (.iload_n 1, 1) := by decide +kernel
theorem dX11_man_5 : decode cX11_man 5 = .ok (.sipush 999, 3) := by decide +kernel
theorem dX11_man_8 : decode cX11_man 8 = .ok (.if_icmp .gt 13, 3) := by decide +kernel
theorem dX11_man_11 : decode cX11_man 11 = .ok (.iload_n 2, 1) := by decide +kernel
theorem dX11_man_12 : decode cX11_man 12 = .ok (.ifCond .lt 9, 3) := by decide +kernel
theorem dX11_man_15 : decode cX11_man 15 = .ok (.iload_n 2, 1) := by decide +kernel
theorem dX11_man_16 : decode cX11_man 16 = .ok (.bipush 99, 2) := by decide +kernel
theorem dX11_man_18 : decode cX11_man 18 = .ok (.if_icmp .le 5, 3) := by decide +kernel
theorem dX11_man_21 : decode cX11_man 21 = .ok (.iconst (-1), 1) := by decide +kernel
theorem dX11_man_22 : decode cX11_man 22 = .ok (.ireturn, 1) := by decide +kernel
theorem dX11_man_23 : decode cX11_man 23 = .ok (.aload_n 0, 1) := by decide +kernel
theorem dX11_man_24 : decode cX11_man 24 = .ok (.getfield 28, 3) := by decide +kernel
theorem dX11_man_27 : decode cX11_man 27 = .ok (.bipush 7, 2) := by decide +kernel
theorem dX11_man_29 : decode cX11_man 29 = .ok (.invokevirtual 111, 3) := by decide +kernel
theorem dX11_man_32 : decode cX11_man 32 = .ok (.istore_n 3, 1) := by decide +kernel
theorem dX11_man_33 : decode cX11_man 33 = .ok (.iload_n 3, 1) := by decide +kernel
theorem dX11_man_34 : decode cX11_man 34 = .ok (.ifCond .lt 20, 3) := by decide +kernel
theorem dX11_man_37 : decode cX11_man 37 = .ok (.aload_n 0, 1) := by decide +kernel
theorem dX11_man_38 : decode cX11_man 38 = .ok (.getfield 19, 3) := by decide +kernel
theorem dX11_man_41 : decode cX11_man 41 = .ok (.iload_n 3, 1) := by decide +kernel
theorem dX11_man_42 : decode cX11_man 42 = .ok (.iload_n 1, 1) := by decide +kernel
theorem dX11_man_43 : decode cX11_man 43 = .ok (.iload_n 2, 1) := by decide +kernel
theorem dX11_man_44 : decode cX11_man 44 = .ok (.bipush 10, 2) := by decide +kernel
theorem dX11_man_46 : decode cX11_man 46 = .ok (.idiv, 1) := by decide +kernel
theorem dX11_man_47 : decode cX11_man 47 = .ok (.iload_n 2, 1) := by decide +kernel
theorem dX11_man_48 : decode cX11_man 48 = .ok (.bipush 10, 2) := by decide +kernel
theorem dX11_man_50 : decode cX11_man 50 = .ok (.irem, 1) := by decide +kernel
theorem dX11_man_51 : decode cX11_man 51 = .ok (.invokevirtual 131, 3) := by decide +kernel
theorem dX11_man_54 : decode cX11_man 54 = .ok (.iload_n 3, 1) := by decide +kernel
theorem dX11_man_55 : decode cX11_man 55 = .ok (.ireturn, 1) := by decide +kernel
theorem dX11_ofBody_0 : decode cX11_ofBody 0 = .ok (.aload_n 0, 1) := by decide +kernel
theorem dX11_ofBody_1 : decode cX11_ofBody 1 = .ok (.getfield 28, 3) := by decide +kernel
theorem dX11_ofBody_4 : decode cX11_ofBody 4 = .ok (.iload_n 1, 1) := by decide +kernel
theorem dX11_ofBody_5 : decode cX11_ofBody 5 = .ok (.invokevirtual 135, 3) := by decide +kernel
theorem dX11_ofBody_8 : decode cX11_ofBody 8 = .ok (.istore_n 3, 1) := by decide +kernel
theorem dX11_ofBody_9 : decode cX11_ofBody 9 = .ok (.iload_n 3, 1) := by decide +kernel
theorem dX11_ofBody_10 : decode cX11_ofBody 10 = .ok (.ifCond .ge 6, 3) := by decide +kernel
theorem dX11_ofBody_13 : decode cX11_ofBody 13 = .ok (.ldc 138, 2) := by decide +kernel
theorem dX11_ofBody_15 : decode cX11_ofBody 15 = .ok (.ireturn, 1) := by decide +kernel
theorem dX11_ofBody_16 : decode cX11_ofBody 16 = .ok (.iload_n 2, 1) := by decide +kernel
theorem dX11_ofBody_17 : decode cX11_ofBody 17 = .ok (.ifCond .ne 5, 3) := by decide +kernel
theorem dX11_ofBody_20 : decode cX11_ofBody 20 = .ok (.iload_n 3, 1) := by decide +kernel
theorem dX11_ofBody_21 : decode cX11_ofBody 21 = .ok (.ireturn, 1) := by decide +kernel
theorem dX11_ofBody_22 : decode cX11_ofBody 22 = .ok (.aload_n 0, 1) := by decide +kernel
theorem dX11_ofBody_23 : decode cX11_ofBody 23 = .ok (.getfield 28, 3) := by decide +kernel
theorem dX11_ofBody_26 : decode cX11_ofBody 26 = .ok (.iload_n 1, 1) := by decide +kernel
theorem dX11_ofBody_27 : decode cX11_ofBody 27 = .ok (.invokevirtual 139, 3) := by decide +kernel
theorem dX11_ofBody_30 : decode cX11_ofBody 30 = .ok (.astore 4, 2) := by decide +kernel
theorem dX11_ofBody_32 : decode cX11_ofBody 32 = .ok (.aload 4, 2) := by decide +kernel
theorem dX11_ofBody_34 : decode cX11_ofBody 34 = .ok (.ifnull 10, 3) := by decide +kernel
theorem dX11_ofBody_37 : decode cX11_ofBody 37 = .ok (.aload 4, 2) := by decide +kernel
theorem dX11_ofBody_39 : decode cX11_ofBody 39 = .ok (.iload_n 2, 1) := by decide +kernel
theorem dX11_ofBody_40 : decode cX11_ofBody 40 = .ok (.invokevirtual 143, 3) := by decide +kernel
theorem dX11_ofBody_43 : decode cX11_ofBody 43 = .ok (.ireturn, 1) := by decide +kernel
theorem dX11_ofBody_44 : decode cX11_ofBody 44 = .ok (.iload_n 3, 1) := by decide +kernel
theorem dX11_ofBody_45 : decode cX11_ofBody 45 = .ok (.bipush 6, 2) := by decide +kernel
theorem dX11_ofBody_47 : decode cX11_ofBody 47 = .ok (.if_icmp .ne 12, 3) := by decide +kernel
theorem dX11_ofBody_50 : decode cX11_ofBody 50 = .ok (.aload_n 0, 1) := by decide +kernel
theorem dX11_ofBody_51 : decode cX11_ofBody 51 = .ok (.getfield 28, 3) := by decide +kernel
theorem dX11_ofBody_54 : decode cX11_ofBody 54 = .ok (.iload_n 2, 1) := by decide +kernel
theorem dX11_ofBody_55 : decode cX11_ofBody 55 = .ok (.invokevirtual 148, 3) := by decide +kernel
theorem dX11_ofBody_58 : decode cX11_ofBody 58 = .ok (.ireturn, 1) := by decide +kernel
theorem dX11_ofBody_59 : decode cX11_ofBody 59 = .ok (.iload_n 3, 1) := by decide +kernel
theorem dX11_ofBody_60 : decode cX11_ofBody 60 = .ok (.bipush 7, 2) := by decide +kernel
theorem dX11_ofBody_62 : decode cX11_ofBody 62 = .ok (.if_icmp .ne 15, 3) := by decide +kernel
theorem dX11_ofBody_65 : decode cX11_ofBody 65 = .ok (.aload_n 0, 1) := by decide +kernel
theorem dX11_ofBody_66 : decode cX11_ofBody 66 = .ok (.getfield 19, 3) := by decide +kernel
theorem dX11_ofBody_69 : decode cX11_ofBody 69 = .ok (.iload_n 1, 1) := by decide +kernel
theorem dX11_ofBody_70 : decode cX11_ofBody 70 = .ok (.iload_n 2, 1) := by decide +kernel
theorem dX11_ofBody_71 : decode cX11_ofBody 71 = .ok (.invokevirtual 151, 3) := by decide +kernel
theorem dX11_ofBody_74 : decode cX11_ofBody 74 = .ok (.goto 5, 3) := by decide +kernel
theorem dX11_ofBody_77 : decode cX11_ofBody 77 = .ok (.ldc 138, 2) := by decide +kernel
theorem dX11_ofBody_79 : decode cX11_ofBody 79 = .ok (.ireturn, 1) := by decide +kernel
theorem dX11_ill_0 : decode cX11_ill 0 = .ok (.aload_n 0, 1) := by decide +kernel
theorem dX11_ill_1 : decode cX11_ill 1 = .ok (.getfield 28, 3) := by decide +kernel
theorem dX11_ill_4 : decode cX11_ill 4 = .ok (.iload_n 1, 1) := by decide +kernel
theorem dX11_ill_5 : decode cX11_ill 5 = .ok (.invokevirtual 135, 3) := by decide +kernel
theorem dX11_ill_8 : decode cX11_ill 8 = .ok (.bipush 7, 2) := by decide +kernel
theorem dX11_ill_10 : decode cX11_ill 10 = .ok (.if_icmp .ne 13, 3) := by decide +kernel
theorem dX11_ill_13 : decode cX11_ill 13 = .ok (.iload_n 2, 1) := by decide +kernel
theorem dX11_ill_14 : decode cX11_ill 14 = .ok (.ifCond .lt 9, 3) := by decide +kernel
theorem dX11_ill_17 : decode cX11_ill 17 = .ok (.iload_n 2, 1) := by decide +kernel
theorem dX11_ill_18 : decode cX11_ill 18 = .ok (.bipush 9, 2) := by decide +kernel
theorem dX11_ill_20 : decode cX11_ill 20 = .ok (.if_icmp .le 5, 3) := by decide +kernel
theorem dX11_ill_23 : decode cX11_ill 23 = .ok (.iconst (-1), 1) := by decide +kernel
theorem dX11_ill_24 : decode cX11_ill 24 = .ok (.ireturn, 1) := by decide +kernel
theorem dX11_ill_25 : decode cX11_ill 25 = .ok (.aload_n 0, 1) := by decide +kernel
theorem dX11_ill_26 : decode cX11_ill 26 = .ok (.getfield 19, 3) := by decide +kernel
theorem dX11_ill_29 : decode cX11_ill 29 = .ok (.getfield 155, 3) := by decide +kernel
theorem dX11_ill_32 : decode cX11_ill 32 = .ok (.iload_n 1, 1) := by decide +kernel
theorem dX11_ill_33 : decode cX11_ill 33 = .ok (.iaload, 1) := by decide +kernel
theorem dX11_ill_34 : decode cX11_ill 34 = .ok (.istore_n 3, 1) := by decide +kernel
theorem dX11_ill_35 : decode cX11_ill 35 = .ok (.aload_n 0, 1) := by decide +kernel
theorem dX11_ill_36 : decode cX11_ill 36 = .ok (.getfield 19, 3) := by decide +kernel
theorem dX11_ill_39 : decode cX11_ill 39 = .ok (.getfield 155, 3) := by decide +kernel
theorem dX11_ill_42 : decode cX11_ill 42 = .ok (.iload_n 1, 1) := by decide +kernel
theorem dX11_ill_43 : decode cX11_ill 43 = .ok (.iload_n 2, 1) := by decide +kernel
theorem dX11_ill_44 : decode cX11_ill 44 = .ok (.iastore, 1) := by decide +kernel
theorem dX11_ill_45 : decode cX11_ill 45 = .ok (.iload_n 3, 1) := by decide +kernel
theorem dX11_ill_46 : decode cX11_ill 46 = .ok (.ireturn, 1) := by decide +kernel
theorem dX11_speed_0 : decode cX11_speed 0 = .ok (.aload_n 0, 1) := by decide +kernel
theorem dX11_speed_1 : decode cX11_speed 1 = .ok (.iload_n 1, 1) := by decide +kernel
theorem dX11_speed_2 : decode cX11_speed 2 = .ok (.invokevirtual 158, 3) := by decide +kernel
theorem dX11_speed_5 : decode cX11_speed 5 = .ok (.astore_n 3, 1) := by decide +kernel
theorem dX11_speed_6 : decode cX11_speed 6 = .ok (.aload_n 3, 1) := by decide +kernel
theorem dX11_speed_7 : decode cX11_speed 7 = .ok (.ifnull 15, 3) := by decide +kernel
theorem dX11_speed_10 : decode cX11_speed 10 = .ok (.iload_n 2, 1) := by decide +kernel
theorem dX11_speed_11 : decode cX11_speed 11 = .ok (.bipush 10, 2) := by decide +kernel
theorem dX11_speed_13 : decode cX11_speed 13 = .ok (.if_icmp .lt 9, 3) := by decide +kernel
theorem dX11_speed_16 : decode cX11_speed 16 = .ok (.iload_n 2, 1) := by decide +kernel
theorem dX11_speed_17 : decode cX11_speed 17 = .ok (.bipush 60, 2) := by decide +kernel
theorem dX11_speed_19 : decode cX11_speed 19 = .ok (.if_icmp .le 5, 3) := by decide +kernel
theorem dX11_speed_22 : decode cX11_speed 22 = .ok (.iconst (-1), 1) := by decide +kernel
theorem dX11_speed_23 : decode cX11_speed 23 = .ok (.ireturn, 1) := by decide +kernel
theorem dX11_speed_24 : decode cX11_speed 24 = .ok (.aload_n 3, 1) := by decide +kernel
theorem dX11_speed_25 : decode cX11_speed 25 = .ok (.getfield 162, 3) := by decide +kernel
theorem dX11_speed_28 : decode cX11_speed 28 = .ok (.istore 4, 2) := by decide +kernel
theorem dX11_speed_30 : decode cX11_speed 30 = .ok (.aload_n 3, 1) := by decide +kernel
theorem dX11_speed_31 : decode cX11_speed 31 = .ok (.iload_n 2, 1) := by decide +kernel
theorem dX11_speed_32 : decode cX11_speed 32 = .ok (.putfield 162, 3) := by decide +kernel
theorem dX11_speed_35 : decode cX11_speed 35 = .ok (.iload 4, 2) := by decide +kernel
theorem dX11_speed_37 : decode cX11_speed 37 = .ok (.ireturn, 1) := by decide +kernel
theorem dX11_set_0 : decode cX11_set 0 = .ok (.aload_n 0, 1) := by decide +kernel
theorem dX11_set_1 : decode cX11_set 1 = .ok (.iload_n 1, 1) := by decide +kernel
theorem dX11_set_2 : decode cX11_set 2 = .ok (.invokevirtual 158, 3) := by decide +kernel
theorem dX11_set_5 : decode cX11_set 5 = .ok (.astore_n 3, 1) := by decide +kernel
theorem dX11_set_6 : decode cX11_set 6 = .ok (.aload_n 3, 1) := by decide +kernel
theorem dX11_set_7 : decode cX11_set 7 = .ok (.ifnull 19, 3) := by decide +kernel
theorem dX11_set_10 : decode cX11_set 10 = .ok (.iload_n 2, 1) := by decide +kernel
theorem dX11_set_11 : decode cX11_set 11 = .ok (.iconst (-1), 1) := by decide +kernel
theorem dX11_set_12 : decode cX11_set 12 = .ok (.if_icmp .eq 17, 3) := by decide +kernel
theorem dX11_set_15 : decode cX11_set 15 = .ok (.aload_n 0, 1) := by decide +kernel
theorem dX11_set_16 : decode cX11_set 16 = .ok (.getfield 28, 3) := by decide +kernel
theorem dX11_set_19 : decode cX11_set 19 = .ok (.iload_n 2, 1) := by decide +kernel
theorem dX11_set_20 : decode cX11_set 20 = .ok (.invokevirtual 139, 3) := by decide +kernel
theorem dX11_set_23 : decode cX11_set 23 = .ok (.ifnonnull 6, 3) := by decide +kernel
theorem dX11_set_26 : decode cX11_set 26 = .ok (.ldc 138, 2) := by decide +kernel
theorem dX11_set_28 : decode cX11_set 28 = .ok (.ireturn, 1) := by decide +kernel
theorem dX11_set_29 : decode cX11_set 29 = .ok (.iconst 0, 1) := by decide +kernel
theorem dX11_set_30 : decode cX11_set 30 = .ok (.istore 4, 2) := by decide +kernel
theorem dX11_set_32 : decode cX11_set 32 = .ok (.iload 4, 2) := by decide +kernel
theorem dX11_set_34 : decode cX11_set 34 = .ok (.iconst 3, 1) := by decide +kernel
theorem dX11_set_35 : decode cX11_set 35 = .ok (.if_icmp .ge 37, 3) := by decide +kernel
theorem dX11_set_38 : decode cX11_set 38 = .ok (.iload 4, 2) := by decide +kernel
theorem dX11_set_40 : decode cX11_set 40 = .ok (.iload_n 1, 1) := by decide +kernel
theorem dX11_set_41 : decode cX11_set 41 = .ok (.if_icmp .eq 25, 3) := by decide +kernel
theorem dX11_set_44 : decode cX11_set 44 = .ok (.iload_n 2, 1) := by decide +kernel
theorem dX11_set_45 : decode cX11_set 45 = .ok (.iconst (-1), 1) := by decide +kernel
theorem dX11_set_46 : decode cX11_set 46 = .ok (.if_icmp .eq 20, 3) := by decide +kernel
theorem dX11_set_49 : decode cX11_set 49 = .ok (.aload_n 0, 1) := by decide +kernel
theorem dX11_set_50 : decode cX11_set 50 = .ok (.getfield 34, 3) := by decide +kernel
theorem dX11_set_53 : decode cX11_set 53 = .ok (.iload 4, 2) := by decide +kernel
theorem dX11_set_55 : decode cX11_set 55 = .ok (.aaload, 1) := by decide +kernel
theorem dX11_set_56 : decode cX11_set 56 = .ok (.getfield 165, 3) := by decide +kernel
theorem dX11_set_59 : decode cX11_set 59 = .ok (.iload_n 2, 1) := by decide +kernel
theorem dX11_set_60 : decode cX11_set 60 = .ok (.if_icmp .ne 6, 3) := by decide +kernel
theorem dX11_set_63 : decode cX11_set 63 = .ok (.ldc 138, 2) := by decide +kernel
theorem dX11_set_65 : decode cX11_set 65 = .ok (.ireturn, 1) := by decide +kernel
theorem dX11_set_66 : decode cX11_set 66 = .ok (.iinc 4 1, 3) := by decide +kernel
theorem dX11_set_69 : decode cX11_set 69 = .ok (.goto (-37), 3) := by decide +kernel
theorem dX11_set_72 : decode cX11_set 72 = .ok (.aload_n 3, 1) := by decide +kernel
theorem dX11_set_73 : decode cX11_set 73 = .ok (.getfield 165, 3) := by decide +kernel
theorem dX11_set_76 : decode cX11_set 76 = .ok (.istore 4, 2) := by decide +kernel
theorem dX11_set_78 : decode cX11_set 78 = .ok (.aload_n 3, 1) := by decide +kernel
theorem dX11_set_79 : decode cX11_set 79 = .ok (.iload_n 2, 1) := by decide +kernel
theorem dX11_set_80 : decode cX11_set 80 = .ok (.putfield 165, 3) := by decide +kernel
theorem dX11_set_83 : decode cX11_set 83 = .ok (.iload 4, 2) := by decide +kernel
theorem dX11_set_85 : decode cX11_set 85 = .ok (.ireturn, 1) := by decide +kernel
theorem dX11_breaks_0 : decode cX11_breaks 0 = .ok (.aload_n 0, 1) := by decide +kernel
theorem dX11_breaks_1 : decode cX11_breaks 1 = .ok (.iload_n 1, 1) := by decide +kernel
theorem dX11_breaks_2 : decode cX11_breaks 2 = .ok (.invokevirtual 158, 3) := by decide +kernel
theorem dX11_breaks_5 : decode cX11_breaks 5 = .ok (.astore_n 3, 1) := by decide +kernel
theorem dX11_breaks_6 : decode cX11_breaks 6 = .ok (.aload_n 3, 1) := by decide +kernel
theorem dX11_breaks_7 : decode cX11_breaks 7 = .ok (.ifnull 18, 3) := by decide +kernel
theorem dX11_breaks_10 : decode cX11_breaks 10 = .ok (.iload_n 2, 1) := by decide +kernel
theorem dX11_breaks_11 : decode cX11_breaks 11 = .ok (.aload_n 0, 1) := by decide +kernel
theorem dX11_breaks_12 : decode cX11_breaks 12 = .ok (.getfield 168, 3) := by decide +kernel
theorem dX11_breaks_15 : decode cX11_breaks 15 = .ok (.if_icmp .lt 10, 3) := by decide +kernel
theorem dX11_breaks_18 : decode cX11_breaks 18 = .ok (.iload_n 2, 1) := by decide +kernel
theorem dX11_breaks_19 : decode cX11_breaks 19 = .ok (.sipush 1699, 3) := by decide +kernel
theorem dX11_breaks_22 : decode cX11_breaks 22 = .ok (.if_icmp .le 5, 3) := by decide +kernel
theorem dX11_breaks_25 : decode cX11_breaks 25 = .ok (.iconst (-1), 1) := by decide +kernel
theorem dX11_breaks_26 : decode cX11_breaks 26 = .ok (.ireturn, 1) := by decide +kernel
theorem dX11_breaks_27 : decode cX11_breaks 27 = .ok (.aload_n 3, 1) := by decide +kernel
theorem dX11_breaks_28 : decode cX11_breaks 28 = .ok (.iload_n 2, 1) := by decide +kernel
theorem dX11_breaks_29 : decode cX11_breaks 29 = .ok (.putfield 171, 3) := by decide +kernel
theorem dX11_breaks_32 : decode cX11_breaks 32 = .ok (.iconst 1, 1) := by decide +kernel
theorem dX11_breaks_33 : decode cX11_breaks 33 = .ok (.ireturn, 1) := by decide +kernel
theorem dX11_yard_0 : decode cX11_yard 0 = .ok (.aload_n 0, 1) := by decide +kernel
theorem dX11_yard_1 : decode cX11_yard 1 = .ok (.getfield 28, 3) := by decide +kernel
theorem dX11_yard_4 : decode cX11_yard 4 = .ok (.iload_n 1, 1) := by decide +kernel
theorem dX11_yard_5 : decode cX11_yard 5 = .ok (.invokevirtual 139, 3) := by decide +kernel
theorem dX11_yard_8 : decode cX11_yard 8 = .ok (.astore_n 3, 1) := by decide +kernel
theorem dX11_yard_9 : decode cX11_yard 9 = .ok (.aload_n 3, 1) := by decide +kernel
theorem dX11_yard_10 : decode cX11_yard 10 = .ok (.ifnull 14, 3) := by decide +kernel
theorem dX11_yard_13 : decode cX11_yard 13 = .ok (.iload_n 2, 1) := by decide +kernel
theorem dX11_yard_14 : decode cX11_yard 14 = .ok (.bipush (-2), 2) := by decide +kernel
theorem dX11_yard_16 : decode cX11_yard 16 = .ok (.if_icmp .lt 8, 3) := by decide +kernel
theorem dX11_yard_19 : decode cX11_yard 19 = .ok (.iload_n 2, 1) := by decide +kernel
theorem dX11_yard_20 : decode cX11_yard 20 = .ok (.iconst 2, 1) := by decide +kernel
theorem dX11_yard_21 : decode cX11_yard 21 = .ok (.if_icmp .le 5, 3) := by decide +kernel
theorem dX11_yard_24 : decode cX11_yard 24 = .ok (.iconst (-1), 1) := by decide +kernel
theorem dX11_yard_25 : decode cX11_yard 25 = .ok (.ireturn, 1) := by decide +kernel
theorem dX11_yard_26 : decode cX11_yard 26 = .ok (.aload_n 3, 1) := by decide +kernel
theorem dX11_yard_27 : decode cX11_yard 27 = .ok (.getfield 174, 3) := by decide +kernel
theorem dX11_yard_30 : decode cX11_yard 30 = .ok (.ifCond .eq 6, 3) := by decide +kernel
theorem dX11_yard_33 : decode cX11_yard 33 = .ok (.bipush (-2), 2) := by decide +kernel
theorem dX11_yard_35 : decode cX11_yard 35 = .ok (.ireturn, 1) := by decide +kernel
theorem dX11_yard_36 : decode cX11_yard 36 = .ok (.aload_n 3, 1) := by decide +kernel
theorem dX11_yard_37 : decode cX11_yard 37 = .ok (.getfield 178, 3) := by decide +kernel
theorem dX11_yard_40 : decode cX11_yard 40 = .ok (.bipush 60, 2) := by decide +kernel
theorem dX11_yard_42 : decode cX11_yard 42 = .ok (.if_icmp .lt 6, 3) := by decide +kernel
theorem dX11_yard_45 : decode cX11_yard 45 = .ok (.bipush (-3), 2) := by decide +kernel
theorem dX11_yard_47 : decode cX11_yard 47 = .ok (.ireturn, 1) := by decide +kernel
theorem dX11_yard_48 : decode cX11_yard 48 = .ok (.aload_n 3, 1) := by decide +kernel
theorem dX11_yard_49 : decode cX11_yard 49 = .ok (.dup, 1) := by decide +kernel
theorem dX11_yard_50 : decode cX11_yard 50 = .ok (.getfield 178, 3) := by decide +kernel
theorem dX11_yard_53 : decode cX11_yard 53 = .ok (.iconst 1, 1) := by decide +kernel
theorem dX11_yard_54 : decode cX11_yard 54 = .ok (.iadd, 1) := by decide +kernel
theorem dX11_yard_55 : decode cX11_yard 55 = .ok (.putfield 178, 3) := by decide +kernel
theorem dX11_yard_58 : decode cX11_yard 58 = .ok (.aload_n 3, 1) := by decide +kernel
theorem dX11_yard_59 : decode cX11_yard 59 = .ok (.getfield 181, 3) := by decide +kernel
theorem dX11_yard_62 : decode cX11_yard 62 = .ok (.aload_n 3, 1) := by decide +kernel
theorem dX11_yard_63 : decode cX11_yard 63 = .ok (.getfield 178, 3) := by decide +kernel
theorem dX11_yard_66 : decode cX11_yard 66 = .ok (.iload_n 2, 1) := by decide +kernel
theorem dX11_yard_67 : decode cX11_yard 67 = .ok (.iastore, 1) := by decide +kernel
theorem dX11_yard_68 : decode cX11_yard 68 = .ok (.aload_n 3, 1) := by decide +kernel
theorem dX11_yard_69 : decode cX11_yard 69 = .ok (.getfield 178, 3) := by decide +kernel
theorem dX11_yard_72 : decode cX11_yard 72 = .ok (.ireturn, 1) := by decide +kernel
theorem dX11_met_0 : decode cX11_met 0 = .ok (.aload_n 0, 1) := by decide +kernel
theorem dX11_met_1 : decode cX11_met 1 = .ok (.getfield 28, 3) := by decide +kernel
theorem dX11_met_4 : decode cX11_met 4 = .ok (.iload_n 1, 1) := by decide +kernel
theorem dX11_met_5 : decode cX11_met 5 = .ok (.invokevirtual 139, 3) := by decide +kernel
theorem dX11_met_8 : decode cX11_met 8 = .ok (.astore_n 3, 1) := by decide +kernel
theorem dX11_met_9 : decode cX11_met 9 = .ok (.aload_n 3, 1) := by decide +kernel
theorem dX11_met_10 : decode cX11_met 10 = .ok (.ifnull 16, 3) := by decide +kernel
theorem dX11_met_13 : decode cX11_met 13 = .ok (.iload_n 2, 1) := by decide +kernel
theorem dX11_met_14 : decode cX11_met 14 = .ok (.iconst 1, 1) := by decide +kernel
theorem dX11_met_15 : decode cX11_met 15 = .ok (.if_icmp .lt 11, 3) := by decide +kernel
theorem dX11_met_18 : decode cX11_met 18 = .ok (.iload_n 2, 1) := by decide +kernel
theorem dX11_met_19 : decode cX11_met 19 = .ok (.aload_n 3, 1) := by decide +kernel
theorem dX11_met_20 : decode cX11_met 20 = .ok (.getfield 184, 3) := by decide +kernel
theorem dX11_met_23 : decode cX11_met 23 = .ok (.if_icmp .le 5, 3) := by decide +kernel
theorem dX11_met_26 : decode cX11_met 26 = .ok (.iconst (-1), 1) := by decide +kernel
theorem dX11_met_27 : decode cX11_met 27 = .ok (.ireturn, 1) := by decide +kernel
theorem dX11_met_28 : decode cX11_met 28 = .ok (.aload_n 3, 1) := by decide +kernel
theorem dX11_met_29 : decode cX11_met 29 = .ok (.getfield 187, 3) := by decide +kernel
theorem dX11_met_32 : decode cX11_met 32 = .ok (.iload_n 2, 1) := by decide +kernel
theorem dX11_met_33 : decode cX11_met 33 = .ok (.iaload, 1) := by decide +kernel
theorem dX11_met_34 : decode cX11_met 34 = .ok (.ireturn, 1) := by decide +kernel
theorem dX11_log_0 : decode cX11_log 0 = .ok (.aload_n 0, 1) := by decide +kernel
theorem dX11_log_1 : decode cX11_log 1 = .ok (.getfield 28, 3) := by decide +kernel
theorem dX11_log_4 : decode cX11_log 4 = .ok (.iload_n 1, 1) := by decide +kernel
theorem dX11_log_5 : decode cX11_log 5 = .ok (.invokevirtual 139, 3) := by decide +kernel
theorem dX11_log_8 : decode cX11_log 8 = .ok (.astore 6, 2) := by decide +kernel
theorem dX11_log_10 : decode cX11_log 10 = .ok (.aload_n 0, 1) := by decide +kernel
theorem dX11_log_11 : decode cX11_log 11 = .ok (.iload_n 2, 1) := by decide +kernel
theorem dX11_log_12 : decode cX11_log 12 = .ok (.invokevirtual 190, 3) := by decide +kernel
theorem dX11_log_15 : decode cX11_log 15 = .ok (.astore 7, 2) := by decide +kernel
theorem dX11_log_17 : decode cX11_log 17 = .ok (.aload 6, 2) := by decide +kernel
theorem dX11_log_19 : decode cX11_log 19 = .ok (.ifnull 29, 3) := by decide +kernel
theorem dX11_log_22 : decode cX11_log 22 = .ok (.aload 7, 2) := by decide +kernel
theorem dX11_log_24 : decode cX11_log 24 = .ok (.ifnull 24, 3) := by decide +kernel
theorem dX11_log_27 : decode cX11_log 27 = .ok (.iload 4, 2) := by decide +kernel
theorem dX11_log_29 : decode cX11_log 29 = .ok (.invokestatic 122, 3) := by decide +kernel
theorem dX11_log_32 : decode cX11_log 32 = .ok (.ifCond .eq 16, 3) := by decide +kernel
theorem dX11_log_35 : decode cX11_log 35 = .ok (.iload 5, 2) := by decide +kernel
theorem dX11_log_37 : decode cX11_log 37 = .ok (.iconst 1, 1) := by decide +kernel
theorem dX11_log_38 : decode cX11_log 38 = .ok (.if_icmp .lt 10, 3) := by decide +kernel
theorem dX11_log_41 : decode cX11_log 41 = .ok (.iload 5, 2) := by decide +kernel
theorem dX11_log_43 : decode cX11_log 43 = .ok (.bipush 60, 2) := by decide +kernel
theorem dX11_log_45 : decode cX11_log 45 = .ok (.if_icmp .le 5, 3) := by decide +kernel
theorem dX11_log_48 : decode cX11_log 48 = .ok (.iconst (-1), 1) := by decide +kernel
theorem dX11_log_49 : decode cX11_log 49 = .ok (.ireturn, 1) := by decide +kernel
theorem dX11_log_50 : decode cX11_log 50 = .ok (.aload 7, 2) := by decide +kernel
theorem dX11_log_52 : decode cX11_log 52 = .ok (.getfield 194, 3) := by decide +kernel
theorem dX11_log_55 : decode cX11_log 55 = .ok (.iconst 1, 1) := by decide +kernel
theorem dX11_log_56 : decode cX11_log 56 = .ok (.if_icmp .eq 20, 3) := by decide +kernel
theorem dX11_log_59 : decode cX11_log 59 = .ok (.aload 7, 2) := by decide +kernel
theorem dX11_log_61 : decode cX11_log 61 = .ok (.getfield 194, 3) := by decide +kernel
theorem dX11_log_64 : decode cX11_log 64 = .ok (.iconst 2, 1) := by decide +kernel
theorem dX11_log_65 : decode cX11_log 65 = .ok (.if_icmp .ne 14, 3) := by decide +kernel
theorem dX11_log_68 : decode cX11_log 68 = .ok (.aload 7, 2) := by decide +kernel
theorem dX11_log_70 : decode cX11_log 70 = .ok (.invokevirtual 197, 3) := by decide +kernel
theorem dX11_log_73 : decode cX11_log 73 = .ok (.ifCond .ne 6, 3) := by decide +kernel
theorem dX11_log_76 : decode cX11_log 76 = .ok (.bipush (-12), 2) := by decide +kernel
theorem dX11_log_78 : decode cX11_log 78 = .ok (.ireturn, 1) := by decide +kernel
theorem dX11_log_79 : decode cX11_log 79 = .ok (.aload 6, 2) := by decide +kernel
theorem dX11_log_81 : decode cX11_log 81 = .ok (.aload 7, 2) := by decide +kernel
theorem dX11_log_83 : decode cX11_log 83 = .ok (.iload_n 3, 1) := by decide +kernel
theorem dX11_log_84 : decode cX11_log 84 = .ok (.iload 4, 2) := by decide +kernel
theorem dX11_log_86 : decode cX11_log 86 = .ok (.iload 5, 2) := by decide +kernel
theorem dX11_log_88 : decode cX11_log 88 = .ok (.invokevirtual 201, 3) := by decide +kernel
theorem dX11_log_91 : decode cX11_log 91 = .ok (.ireturn, 1) := by decide +kernel
theorem dX11_spread_0 : decode cX11_spread 0 = .ok (.iload_n 1, 1) := by decide +kernel
theorem dX11_spread_1 : decode cX11_spread 1 = .ok (.ifCond .lt 9, 3) := by decide +kernel
theorem dX11_spread_4 : decode cX11_spread 4 = .ok (.iload_n 1, 1) := by decide +kernel
theorem dX11_spread_5 : decode cX11_spread 5 = .ok (.bipush 8, 2) := by decide +kernel
theorem dX11_spread_7 : decode cX11_spread 7 = .ok (.if_icmp .le 5, 3) := by decide +kernel
theorem dX11_spread_10 : decode cX11_spread 10 = .ok (.iconst (-1), 1) := by decide +kernel
theorem dX11_spread_11 : decode cX11_spread 11 = .ok (.ireturn, 1) := by decide +kernel
theorem dX11_spread_12 : decode cX11_spread 12 = .ok (.aload_n 0, 1) := by decide +kernel
theorem dX11_spread_13 : decode cX11_spread 13 = .ok (.getfield 94, 3) := by decide +kernel
theorem dX11_spread_16 : decode cX11_spread 16 = .ok (.istore_n 2, 1) := by decide +kernel
theorem dX11_spread_17 : decode cX11_spread 17 = .ok (.aload_n 0, 1) := by decide +kernel
theorem dX11_spread_18 : decode cX11_spread 18 = .ok (.iload_n 1, 1) := by decide +kernel
theorem dX11_spread_19 : decode cX11_spread 19 = .ok (.putfield 94, 3) := by decide +kernel
theorem dX11_spread_22 : decode cX11_spread 22 = .ok (.iload_n 2, 1) := by decide +kernel
theorem dX11_spread_23 : decode cX11_spread 23 = .ok (.ireturn, 1) := by decide +kernel
theorem dX11_canBe_0 : decode cX11_canBe 0 = .ok (.aload_n 0, 1) := by decide +kernel
theorem dX11_canBe_1 : decode cX11_canBe 1 = .ok (.getfield 28, 3) := by decide +kernel
theorem dX11_canBe_4 : decode cX11_canBe 4 = .ok (.iload_n 1, 1) := by decide +kernel
theorem dX11_canBe_5 : decode cX11_canBe 5 = .ok (.invokevirtual 139, 3) := by decide +kernel
theorem dX11_canBe_8 : decode cX11_canBe 8 = .ok (.astore 4, 2) := by decide +kernel
theorem dX11_canBe_10 : decode cX11_canBe 10 = .ok (.aload 4, 2) := by decide +kernel
theorem dX11_canBe_12 : decode cX11_canBe 12 = .ok (.ifnull 26, 3) := by decide +kernel
theorem dX11_canBe_15 : decode cX11_canBe 15 = .ok (.iload_n 2, 1) := by decide +kernel
theorem dX11_canBe_16 : decode cX11_canBe 16 = .ok (.iconst 1, 1) := by decide +kernel
theorem dX11_canBe_17 : decode cX11_canBe 17 = .ok (.if_icmp .lt 21, 3) := by decide +kernel
theorem dX11_canBe_20 : decode cX11_canBe 20 = .ok (.iload_n 2, 1) := by decide +kernel
theorem dX11_canBe_21 : decode cX11_canBe 21 = .ok (.aload 4, 2) := by decide +kernel
theorem dX11_canBe_23 : decode cX11_canBe 23 = .ok (.getfield 184, 3) := by decide +kernel
theorem dX11_canBe_26 : decode cX11_canBe 26 = .ok (.if_icmp .gt 12, 3) := by decide +kernel
theorem dX11_canBe_29 : decode cX11_canBe 29 = .ok (.iload_n 3, 1) := by decide +kernel
theorem dX11_canBe_30 : decode cX11_canBe 30 = .ok (.ifCond .lt 8, 3) := by decide +kernel
theorem dX11_canBe_33 : decode cX11_canBe 33 = .ok (.iload_n 3, 1) := by decide +kernel
theorem dX11_canBe_34 : decode cX11_canBe 34 = .ok (.iconst 1, 1) := by decide +kernel
theorem dX11_canBe_35 : decode cX11_canBe 35 = .ok (.if_icmp .le 5, 3) := by decide +kernel
theorem dX11_canBe_38 : decode cX11_canBe 38 = .ok (.iconst (-1), 1) := by decide +kernel
theorem dX11_canBe_39 : decode cX11_canBe 39 = .ok (.ireturn, 1) := by decide +kernel
theorem dX11_canBe_40 : decode cX11_canBe 40 = .ok (.iconst 4, 1) := by decide +kernel
theorem dX11_canBe_41 : decode cX11_canBe 41 = .ok (.aload 4, 2) := by decide +kernel
theorem dX11_canBe_43 : decode cX11_canBe 43 = .ok (.getfield 205, 3) := by decide +kernel
theorem dX11_canBe_46 : decode cX11_canBe 46 = .ok (.imul, 1) := by decide +kernel
theorem dX11_canBe_47 : decode cX11_canBe 47 = .ok (.istore 5, 2) := by decide +kernel
theorem dX11_canBe_49 : decode cX11_canBe 49 = .ok (.iconst 1, 1) := by decide +kernel
theorem dX11_canBe_50 : decode cX11_canBe 50 = .ok (.istore 6, 2) := by decide +kernel
theorem dX11_canBe_52 : decode cX11_canBe 52 = .ok (.iload 6, 2) := by decide +kernel
theorem dX11_canBe_54 : decode cX11_canBe 54 = .ok (.iload_n 2, 1) := by decide +kernel
theorem dX11_canBe_55 : decode cX11_canBe 55 = .ok (.if_icmp .gt 43, 3) := by decide +kernel
theorem dX11_canBe_58 : decode cX11_canBe 58 = .ok (.iload 5, 2) := by decide +kernel
theorem dX11_canBe_60 : decode cX11_canBe 60 = .ok (.iload_n 3, 1) := by decide +kernel
theorem dX11_canBe_61 : decode cX11_canBe 61 = .ok (.ifCond .ne 17, 3) := by decide +kernel
theorem dX11_canBe_64 : decode cX11_canBe 64 = .ok (.aload 4, 2) := by decide +kernel
theorem dX11_canBe_66 : decode cX11_canBe 66 = .ok (.iload 6, 2) := by decide +kernel
theorem dX11_canBe_68 : decode cX11_canBe 68 = .ok (.aload_n 0, 1) := by decide +kernel
theorem dX11_canBe_69 : decode cX11_canBe 69 = .ok (.getfield 94, 3) := by decide +kernel
theorem dX11_canBe_72 : decode cX11_canBe 72 = .ok (.invokevirtual 208, 3) := by decide +kernel
theorem dX11_canBe_75 : decode cX11_canBe 75 = .ok (.goto 14, 3) := by decide +kernel
theorem dX11_canBe_78 : decode cX11_canBe 78 = .ok (.aload 4, 2) := by decide +kernel
theorem dX11_canBe_80 : decode cX11_canBe 80 = .ok (.iload 6, 2) := by decide +kernel
theorem dX11_canBe_82 : decode cX11_canBe 82 = .ok (.aload_n 0, 1) := by decide +kernel
theorem dX11_canBe_83 : decode cX11_canBe 83 = .ok (.getfield 94, 3) := by decide +kernel
theorem dX11_canBe_86 : decode cX11_canBe 86 = .ok (.invokevirtual 211, 3) := by decide +kernel
theorem dX11_canBe_89 : decode cX11_canBe 89 = .ok (.iadd, 1) := by decide +kernel
theorem dX11_canBe_90 : decode cX11_canBe 90 = .ok (.istore 5, 2) := by decide +kernel
theorem dX11_canBe_92 : decode cX11_canBe 92 = .ok (.iinc 6 1, 3) := by decide +kernel
theorem dX11_canBe_95 : decode cX11_canBe 95 = .ok (.goto (-43), 3) := by decide +kernel
theorem dX11_canBe_98 : decode cX11_canBe 98 = .ok (.iload_n 3, 1) := by decide +kernel
theorem dX11_canBe_99 : decode cX11_canBe 99 = .ok (.ifCond .ne 11, 3) := by decide +kernel
theorem dX11_canBe_102 : decode cX11_canBe 102 = .ok (.iload 5, 2) := by decide +kernel
theorem dX11_canBe_104 : decode cX11_canBe 104 = .ok (.invokestatic 214, 3) := by decide +kernel
theorem dX11_canBe_107 : decode cX11_canBe 107 = .ok (.goto 8, 3) := by decide +kernel
theorem dX11_canBe_110 : decode cX11_canBe 110 = .ok (.iload 5, 2) := by decide +kernel
theorem dX11_canBe_112 : decode cX11_canBe 112 = .ok (.invokestatic 217, 3) := by decide +kernel
theorem dX11_canBe_115 : decode cX11_canBe 115 = .ok (.ireturn, 1) := by decide +kernel
theorem dX11_map_0 : decode cX11_map 0 = .ok (.iload_n 1, 1) := by decide +kernel
theorem dX11_map_1 : decode cX11_map 1 = .ok (.invokestatic 118, 3) := by decide +kernel
theorem dX11_map_4 : decode cX11_map 4 = .ok (.ifCond .eq 10, 3) := by decide +kernel
theorem dX11_map_7 : decode cX11_map 7 = .ok (.iload_n 2, 1) := by decide +kernel
theorem dX11_map_8 : decode cX11_map 8 = .ok (.invokestatic 122, 3) := by decide +kernel
theorem dX11_map_11 : decode cX11_map 11 = .ok (.ifCond .ne 5, 3) := by decide +kernel
theorem dX11_map_14 : decode cX11_map 14 = .ok (.iconst (-1), 1) := by decide +kernel
theorem dX11_map_15 : decode cX11_map 15 = .ok (.ireturn, 1) := by decide +kernel
theorem dX11_map_16 : decode cX11_map 16 = .ok (.aload_n 0, 1) := by decide +kernel
theorem dX11_map_17 : decode cX11_map 17 = .ok (.getfield 220, 3) := by decide +kernel
theorem dX11_map_20 : decode cX11_map 20 = .ok (.bipush 8, 2) := by decide +kernel
theorem dX11_map_22 : decode cX11_map 22 = .ok (.if_icmp .lt 6, 3) := by decide +kernel
theorem dX11_map_25 : decode cX11_map 25 = .ok (.bipush (-3), 2) := by decide +kernel
theorem dX11_map_27 : decode cX11_map 27 = .ok (.ireturn, 1) := by decide +kernel
theorem dX11_map_28 : decode cX11_map 28 = .ok (.aload_n 0, 1) := by decide +kernel
theorem dX11_map_29 : decode cX11_map 29 = .ok (.getfield 41, 3) := by decide +kernel
theorem dX11_map_32 : decode cX11_map 32 = .ok (.aload_n 0, 1) := by decide +kernel
theorem dX11_map_33 : decode cX11_map 33 = .ok (.getfield 220, 3) := by decide +kernel
theorem dX11_map_36 : decode cX11_map 36 = .ok (.new 39, 3) := by decide +kernel
theorem dX11_map_39 : decode cX11_map 39 = .ok (.dup, 1) := by decide +kernel
theorem dX11_map_40 : decode cX11_map 40 = .ok (.iload_n 1, 1) := by decide +kernel
theorem dX11_map_41 : decode cX11_map 41 = .ok (.bipush 100, 2) := by decide +kernel
theorem dX11_map_43 : decode cX11_map 43 = .ok (.idiv, 1) := by decide +kernel
theorem dX11_map_44 : decode cX11_map 44 = .ok (.iload_n 1, 1) := by decide +kernel
theorem dX11_map_45 : decode cX11_map 45 = .ok (.bipush 100, 2) := by decide +kernel
theorem dX11_map_47 : decode cX11_map 47 = .ok (.irem, 1) := by decide +kernel
theorem dX11_map_48 : decode cX11_map 48 = .ok (.iload_n 2, 1) := by decide +kernel
theorem dX11_map_49 : decode cX11_map 49 = .ok (.invokespecial 223, 3) := by decide +kernel
theorem dX11_map_52 : decode cX11_map 52 = .ok (.aastore, 1) := by decide +kernel
theorem dX11_map_53 : decode cX11_map 53 = .ok (.aload_n 0, 1) := by decide +kernel
theorem dX11_map_54 : decode cX11_map 54 = .ok (.dup, 1) := by decide +kernel
theorem dX11_map_55 : decode cX11_map 55 = .ok (.getfield 220, 3) := by decide +kernel
theorem dX11_map_58 : decode cX11_map 58 = .ok (.iconst 1, 1) := by decide +kernel
theorem dX11_map_59 : decode cX11_map 59 = .ok (.iadd, 1) := by decide +kernel
theorem dX11_map_60 : decode cX11_map 60 = .ok (.putfield 220, 3) := by decide +kernel
theorem dX11_map_63 : decode cX11_map 63 = .ok (.aload_n 0, 1) := by decide +kernel
theorem dX11_map_64 : decode cX11_map 64 = .ok (.getfield 220, 3) := by decide +kernel
theorem dX11_map_67 : decode cX11_map 67 = .ok (.iconst 1, 1) := by decide +kernel
theorem dX11_map_68 : decode cX11_map 68 = .ok (.isub, 1) := by decide +kernel
theorem dX11_map_69 : decode cX11_map 69 = .ok (.ireturn, 1) := by decide +kernel
theorem dX11_old_0 : decode cX11_old 0 = .ok (.aload_n 0, 1) := by decide +kernel
theorem dX11_old_1 : decode cX11_old 1 = .ok (.iload_n 1, 1) := by decide +kernel
theorem dX11_old_2 : decode cX11_old 2 = .ok (.invokevirtual 226, 3) := by decide +kernel
theorem dX11_old_5 : decode cX11_old 5 = .ok (.astore_n 3, 1) := by decide +kernel
theorem dX11_old_6 : decode cX11_old 6 = .ok (.aload_n 3, 1) := by decide +kernel
theorem dX11_old_7 : decode cX11_old 7 = .ok (.ifnull 25, 3) := by decide +kernel
theorem dX11_old_10 : decode cX11_old 10 = .ok (.iload_n 2, 1) := by decide +kernel
theorem dX11_old_11 : decode cX11_old 11 = .ok (.invokestatic 101, 3) := by decide +kernel
theorem dX11_old_14 : decode cX11_old 14 = .ok (.ifCond .lt 18, 3) := by decide +kernel
theorem dX11_old_17 : decode cX11_old 17 = .ok (.aload_n 3, 1) := by decide +kernel
theorem dX11_old_18 : decode cX11_old 18 = .ok (.iload_n 2, 1) := by decide +kernel
theorem dX11_old_19 : decode cX11_old 19 = .ok (.bipush 100, 2) := by decide +kernel
theorem dX11_old_21 : decode cX11_old 21 = .ok (.idiv, 1) := by decide +kernel
theorem dX11_old_22 : decode cX11_old 22 = .ok (.iload_n 2, 1) := by decide +kernel
theorem dX11_old_23 : decode cX11_old 23 = .ok (.bipush 100, 2) := by decide +kernel
theorem dX11_old_25 : decode cX11_old 25 = .ok (.irem, 1) := by decide +kernel
theorem dX11_old_26 : decode cX11_old 26 = .ok (.invokevirtual 230, 3) := by decide +kernel
theorem dX11_old_29 : decode cX11_old 29 = .ok (.ifCond .eq 5, 3) := by decide +kernel
theorem dX11_old_32 : decode cX11_old 32 = .ok (.iconst (-1), 1) := by decide +kernel
theorem dX11_old_33 : decode cX11_old 33 = .ok (.ireturn, 1) := by decide +kernel
theorem dX11_old_34 : decode cX11_old 34 = .ok (.aload_n 3, 1) := by decide +kernel
theorem dX11_old_35 : decode cX11_old 35 = .ok (.iload_n 2, 1) := by decide +kernel
theorem dX11_old_36 : decode cX11_old 36 = .ok (.bipush 100, 2) := by decide +kernel
theorem dX11_old_38 : decode cX11_old 38 = .ok (.idiv, 1) := by decide +kernel
theorem dX11_old_39 : decode cX11_old 39 = .ok (.iload_n 2, 1) := by decide +kernel
theorem dX11_old_40 : decode cX11_old 40 = .ok (.bipush 100, 2) := by decide +kernel
theorem dX11_old_42 : decode cX11_old 42 = .ok (.irem, 1) := by decide +kernel
theorem dX11_old_43 : decode cX11_old 43 = .ok (.invokevirtual 234, 3) := by decide +kernel
theorem dX11_old_46 : decode cX11_old 46 = .ok (.ireturn, 1) := by decide +kernel
theorem dX11_wrong_0 : decode cX11_wrong 0 = .ok (.aload_n 0, 1) := by decide +kernel
theorem dX11_wrong_1 : decode cX11_wrong 1 = .ok (.iload_n 1, 1) := by decide +kernel
theorem dX11_wrong_2 : decode cX11_wrong 2 = .ok (.invokevirtual 226, 3) := by decide +kernel
theorem dX11_wrong_5 : decode cX11_wrong 5 = .ok (.astore_n 2, 1) := by decide +kernel
theorem dX11_wrong_6 : decode cX11_wrong 6 = .ok (.aload_n 2, 1) := by decide +kernel
theorem dX11_wrong_7 : decode cX11_wrong 7 = .ok (.ifnonnull 7, 3) := by decide +kernel
theorem dX11_wrong_10 : decode cX11_wrong 10 = .ok (.iconst (-1), 1) := by decide +kernel
theorem dX11_wrong_11 : decode cX11_wrong 11 = .ok (.goto 8, 3) := by decide +kernel
theorem dX11_wrong_14 : decode cX11_wrong 14 = .ok (.aload_n 0, 1) := by decide +kernel
theorem dX11_wrong_15 : decode cX11_wrong 15 = .ok (.aload_n 2, 1) := by decide +kernel
theorem dX11_wrong_16 : decode cX11_wrong 16 = .ok (.invokevirtual 237, 3) := by decide +kernel
theorem dX11_wrong_19 : decode cX11_wrong 19 = .ok (.ireturn, 1) := by decide +kernel
theorem dX11_known_0 : decode cX11_known 0 = .ok (.iload_n 1, 1) := by decide +kernel
theorem dX11_known_1 : decode cX11_known 1 = .ok (.ifCond .lt 8, 3) := by decide +kernel
theorem dX11_known_4 : decode cX11_known 4 = .ok (.iload_n 1, 1) := by decide +kernel
theorem dX11_known_5 : decode cX11_known 5 = .ok (.iconst 5, 1) := by decide +kernel
theorem dX11_known_6 : decode cX11_known 6 = .ok (.if_icmp .le 5, 3) := by decide +kernel
theorem dX11_known_9 : decode cX11_known 9 = .ok (.iconst (-1), 1) := by decide +kernel
theorem dX11_known_10 : decode cX11_known 10 = .ok (.ireturn, 1) := by decide +kernel
theorem dX11_known_11 : decode cX11_known 11 = .ok (.bipush (-2), 2) := by decide +kernel
