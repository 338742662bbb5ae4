theorem dX11_race_41 : decode cX11_race 41 = .ok (.invokevirtual 139, 3) := by decide +kernel
theorem dX11_race_44 : decode cX11_race 44 = .ok (.astore 5, 2) := by decide +kernel
theorem dX11_race_46 : decode cX11_race 46 = .ok (.aload 5, 2) := by decide +kernel
theorem dX11_race_48 : decode cX11_race 48 = .ok (.ifnull 20, 3) := by decide +kernel
theorem dX11_race_51 : decode cX11_race 51 = .ok (.aload 5, 2) := by decide +kernel
theorem dX11_race_53 : decode cX11_race 53 = .ok (.getfield 174, 3) := by decide +kernel
theorem dX11_race_56 : decode cX11_race 56 = .ok (.ifCond .ne 12, 3) := by decide +kernel
theorem dX11_race_59 : decode cX11_race 59 = .ok (.aload 5, 2) := by decide +kernel
theorem dX11_race_61 : decode cX11_race 61 = .ok (.getfield 184, 3) := by decide +kernel
theorem dX11_race_64 : decode cX11_race 64 = .ok (.iload_n 2, 1) := by decide +kernel
theorem dX11_race_65 : decode cX11_race 65 = .ok (.if_icmp .lt 6, 3) := by decide +kernel
theorem dX11_race_68 : decode cX11_race 68 = .ok (.bipush (-2), 2) := by decide +kernel
theorem dX11_race_70 : decode cX11_race 70 = .ok (.ireturn, 1) := by decide +kernel
theorem dX11_race_71 : decode cX11_race 71 = .ok (.iconst 1, 1) := by decide +kernel
theorem dX11_race_72 : decode cX11_race 72 = .ok (.iload_n 2, 1) := by decide +kernel
theorem dX11_race_73 : decode cX11_race 73 = .ok (.aload 5, 2) := by decide +kernel
theorem dX11_race_75 : decode cX11_race 75 = .ok (.getfield 184, 3) := by decide +kernel
theorem dX11_race_78 : decode cX11_race 78 = .ok (.isub, 1) := by decide +kernel
theorem dX11_race_79 : decode cX11_race 79 = .ok (.aload 4, 2) := by decide +kernel
theorem dX11_race_81 : decode cX11_race 81 = .ok (.getfield 162, 3) := by decide +kernel
theorem dX11_race_84 : decode cX11_race 84 = .ok (.imul, 1) := by decide +kernel
theorem dX11_race_85 : decode cX11_race 85 = .ok (.iload_n 3, 1) := by decide +kernel
theorem dX11_race_86 : decode cX11_race 86 = .ok (.imul, 1) := by decide +kernel
theorem dX11_race_87 : decode cX11_race 87 = .ok (.aload 5, 2) := by decide +kernel
theorem dX11_race_89 : decode cX11_race 89 = .ok (.getfield 375, 3) := by decide +kernel
theorem dX11_race_92 : decode cX11_race 92 = .ok (.isub, 1) := by decide +kernel
theorem dX11_race_93 : decode cX11_race 93 = .ok (.invokestatic 247, 3) := by decide +kernel
theorem dX11_race_96 : decode cX11_race 96 = .ok (.istore 6, 2) := by decide +kernel
theorem dX11_race_98 : decode cX11_race 98 = .ok (.sipush 9999, 3) := by decide +kernel
theorem dX11_race_101 : decode cX11_race 101 = .ok (.aload_n 0, 1) := by decide +kernel
theorem dX11_race_102 : decode cX11_race 102 = .ok (.getfield 168, 3) := by decide +kernel
theorem dX11_race_105 : decode cX11_race 105 = .ok (.aload 4, 2) := by decide +kernel
theorem dX11_race_107 : decode cX11_race 107 = .ok (.getfield 171, 3) := by decide +kernel
theorem dX11_race_110 : decode cX11_race 110 = .ok (.invokestatic 247, 3) := by decide +kernel
theorem dX11_race_113 : decode cX11_race 113 = .ok (.iload 6, 2) := by decide +kernel
theorem dX11_race_115 : decode cX11_race 115 = .ok (.bipush 59, 2) := by decide +kernel
theorem dX11_race_117 : decode cX11_race 117 = .ok (.iadd, 1) := by decide +kernel
theorem dX11_race_118 : decode cX11_race 118 = .ok (.bipush 60, 2) := by decide +kernel
theorem dX11_race_120 : decode cX11_race 120 = .ok (.idiv, 1) := by decide +kernel
theorem dX11_race_121 : decode cX11_race 121 = .ok (.iadd, 1) := by decide +kernel
theorem dX11_race_122 : decode cX11_race 122 = .ok (.invokestatic 255, 3) := by decide +kernel
theorem dX11_race_125 : decode cX11_race 125 = .ok (.ireturn, 1) := by decide +kernel
theorem dX11_capsule_0 : decode cX11_capsule 0 = .ok (.aload_n 0, 1) := by decide +kernel
theorem dX11_capsule_1 : decode cX11_capsule 1 = .ok (.getfield 28, 3) := by decide +kernel
theorem dX11_capsule_4 : decode cX11_capsule 4 = .ok (.iload_n 1, 1) := by decide +kernel
theorem dX11_capsule_5 : decode cX11_capsule 5 = .ok (.invokevirtual 139, 3) := by decide +kernel
theorem dX11_capsule_8 : decode cX11_capsule 8 = .ok (.astore_n 2, 1) := by decide +kernel
theorem dX11_capsule_9 : decode cX11_capsule 9 = .ok (.aload_n 0, 1) := by decide +kernel
theorem dX11_capsule_10 : decode cX11_capsule 10 = .ok (.getfield 28, 3) := by decide +kernel
theorem dX11_capsule_13 : decode cX11_capsule 13 = .ok (.iload_n 1, 1) := by decide +kernel
theorem dX11_capsule_14 : decode cX11_capsule 14 = .ok (.invokevirtual 135, 3) := by decide +kernel
theorem dX11_capsule_17 : decode cX11_capsule 17 = .ok (.istore_n 3, 1) := by decide +kernel
theorem dX11_capsule_18 : decode cX11_capsule 18 = .ok (.aload_n 2, 1) := by decide +kernel
theorem dX11_capsule_19 : decode cX11_capsule 19 = .ok (.ifnull 13, 3) := by decide +kernel
theorem dX11_capsule_22 : decode cX11_capsule 22 = .ok (.iload_n 3, 1) := by decide +kernel
theorem dX11_capsule_23 : decode cX11_capsule 23 = .ok (.iconst 4, 1) := by decide +kernel
theorem dX11_capsule_24 : decode cX11_capsule 24 = .ok (.if_icmp .eq 10, 3) := by decide +kernel
theorem dX11_capsule_27 : decode cX11_capsule 27 = .ok (.iload_n 3, 1) := by decide +kernel
theorem dX11_capsule_28 : decode cX11_capsule 28 = .ok (.iconst 5, 1) := by decide +kernel
theorem dX11_capsule_29 : decode cX11_capsule 29 = .ok (.if_icmp .eq 5, 3) := by decide +kernel
theorem dX11_capsule_32 : decode cX11_capsule 32 = .ok (.iconst (-1), 1) := by decide +kernel
theorem dX11_capsule_33 : decode cX11_capsule 33 = .ok (.ireturn, 1) := by decide +kernel
theorem dX11_capsule_34 : decode cX11_capsule 34 = .ok (.aload_n 2, 1) := by decide +kernel
theorem dX11_capsule_35 : decode cX11_capsule 35 = .ok (.getfield 174, 3) := by decide +kernel
theorem dX11_capsule_38 : decode cX11_capsule 38 = .ok (.ifCond .eq 13, 3) := by decide +kernel
theorem dX11_capsule_41 : decode cX11_capsule 41 = .ok (.aload_n 0, 1) := by decide +kernel
theorem dX11_capsule_42 : decode cX11_capsule 42 = .ok (.getfield 19, 3) := by decide +kernel
theorem dX11_capsule_45 : decode cX11_capsule 45 = .ok (.getfield 301, 3) := by decide +kernel
theorem dX11_capsule_48 : decode cX11_capsule 48 = .ok (.ifCond .ne 6, 3) := by decide +kernel
theorem dX11_capsule_51 : decode cX11_capsule 51 = .ok (.bipush (-2), 2) := by decide +kernel
theorem dX11_capsule_53 : decode cX11_capsule 53 = .ok (.ireturn, 1) := by decide +kernel
theorem dX11_capsule_54 : decode cX11_capsule 54 = .ok (.aload_n 0, 1) := by decide +kernel
theorem dX11_capsule_55 : decode cX11_capsule 55 = .ok (.getfield 19, 3) := by decide +kernel
theorem dX11_capsule_58 : decode cX11_capsule 58 = .ok (.aload_n 0, 1) := by decide +kernel
theorem dX11_capsule_59 : decode cX11_capsule 59 = .ok (.getfield 168, 3) := by decide +kernel
theorem dX11_capsule_62 : decode cX11_capsule 62 = .ok (.iconst 1, 1) := by decide +kernel
theorem dX11_capsule_63 : decode cX11_capsule 63 = .ok (.aload_n 2, 1) := by decide +kernel
theorem dX11_capsule_64 : decode cX11_capsule 64 = .ok (.getfield 184, 3) := by decide +kernel
theorem dX11_capsule_67 : decode cX11_capsule 67 = .ok (.bipush 20, 2) := by decide +kernel
theorem dX11_capsule_69 : decode cX11_capsule 69 = .ok (.idiv, 1) := by decide +kernel
theorem dX11_capsule_70 : decode cX11_capsule 70 = .ok (.iadd, 1) := by decide +kernel
theorem dX11_capsule_71 : decode cX11_capsule 71 = .ok (.invokevirtual 378, 3) := by decide +kernel
theorem dX11_capsule_74 : decode cX11_capsule 74 = .ok (.aload_n 0, 1) := by decide +kernel
theorem dX11_capsule_75 : decode cX11_capsule 75 = .ok (.iconst 0, 1) := by decide +kernel
theorem dX11_capsule_76 : decode cX11_capsule 76 = .ok (.iconst 1, 1) := by decide +kernel
theorem dX11_capsule_77 : decode cX11_capsule 77 = .ok (.aload_n 0, 1) := by decide +kernel
theorem dX11_capsule_78 : decode cX11_capsule 78 = .ok (.getfield 168, 3) := by decide +kernel
theorem dX11_capsule_81 : decode cX11_capsule 81 = .ok (.aload_n 0, 1) := by decide +kernel
theorem dX11_capsule_82 : decode cX11_capsule 82 = .ok (.getfield 168, 3) := by decide +kernel
theorem dX11_capsule_85 : decode cX11_capsule 85 = .ok (.invokevirtual 285, 3) := by decide +kernel
theorem dX11_capsule_88 : decode cX11_capsule 88 = .ok (.istore 4, 2) := by decide +kernel
theorem dX11_capsule_90 : decode cX11_capsule 90 = .ok (.iconst 0, 1) := by decide +kernel
theorem dX11_capsule_91 : decode cX11_capsule 91 = .ok (.istore 5, 2) := by decide +kernel
theorem dX11_capsule_93 : decode cX11_capsule 93 = .ok (.iload 5, 2) := by decide +kernel
theorem dX11_capsule_95 : decode cX11_capsule 95 = .ok (.aload_n 0, 1) := by decide +kernel
theorem dX11_capsule_96 : decode cX11_capsule 96 = .ok (.getfield 28, 3) := by decide +kernel
theorem dX11_capsule_99 : decode cX11_capsule 99 = .ok (.getfield 381, 3) := by decide +kernel
theorem dX11_capsule_102 : decode cX11_capsule 102 = .ok (.if_icmp .ge 41, 3) := by decide +kernel
theorem dX11_capsule_105 : decode cX11_capsule 105 = .ok (.aload_n 0, 1) := by decide +kernel
theorem dX11_capsule_106 : decode cX11_capsule 106 = .ok (.getfield 19, 3) := by decide +kernel
theorem dX11_capsule_109 : decode cX11_capsule 109 = .ok (.getfield 384, 3) := by decide +kernel
theorem dX11_capsule_112 : decode cX11_capsule 112 = .ok (.iload 5, 2) := by decide +kernel
theorem dX11_capsule_114 : decode cX11_capsule 114 = .ok (.iaload, 1) := by decide +kernel
theorem dX11_capsule_115 : decode cX11_capsule 115 = .ok (.iconst 1, 1) := by decide +kernel
theorem dX11_capsule_116 : decode cX11_capsule 116 = .ok (.if_icmp .ne 21, 3) := by decide +kernel
theorem dX11_capsule_119 : decode cX11_capsule 119 = .ok (.aload_n 0, 1) := by decide +kernel
theorem dX11_capsule_120 : decode cX11_capsule 120 = .ok (.getfield 19, 3) := by decide +kernel
theorem dX11_capsule_123 : decode cX11_capsule 123 = .ok (.iload 5, 2) := by decide +kernel
theorem dX11_capsule_125 : decode cX11_capsule 125 = .ok (.aload_n 0, 1) := by decide +kernel
theorem dX11_capsule_126 : decode cX11_capsule 126 = .ok (.iload 4, 2) := by decide +kernel
theorem dX11_capsule_128 : decode cX11_capsule 128 = .ok (.iconst 1, 1) := by decide +kernel
theorem dX11_capsule_129 : decode cX11_capsule 129 = .ok (.iload 5, 2) := by decide +kernel
theorem dX11_capsule_131 : decode cX11_capsule 131 = .ok (.invokevirtual 289, 3) := by decide +kernel
theorem dX11_capsule_134 : decode cX11_capsule 134 = .ok (.invokevirtual 387, 3) := by decide +kernel
theorem dX11_capsule_137 : decode cX11_capsule 137 = .ok (.iinc 5 1, 3) := by decide +kernel
theorem dX11_capsule_140 : decode cX11_capsule 140 = .ok (.goto (-47), 3) := by decide +kernel
theorem dX11_capsule_143 : decode cX11_capsule 143 = .ok (.aload_n 0, 1) := by decide +kernel
theorem dX11_capsule_144 : decode cX11_capsule 144 = .ok (.getfield 19, 3) := by decide +kernel
theorem dX11_capsule_147 : decode cX11_capsule 147 = .ok (.aload_n 0, 1) := by decide +kernel
theorem dX11_capsule_148 : decode cX11_capsule 148 = .ok (.getfield 19, 3) := by decide +kernel
theorem dX11_capsule_151 : decode cX11_capsule 151 = .ok (.getfield 390, 3) := by decide +kernel
theorem dX11_capsule_154 : decode cX11_capsule 154 = .ok (.iconst 1, 1) := by decide +kernel
theorem dX11_capsule_155 : decode cX11_capsule 155 = .ok (.isub, 1) := by decide +kernel
theorem dX11_capsule_156 : decode cX11_capsule 156 = .ok (.invokevirtual 393, 3) := by decide +kernel
theorem dX11_capsule_159 : decode cX11_capsule 159 = .ok (.ireturn, 1) := by decide +kernel
theorem dX11_up_0 : decode cX11_up 0 = .ok (.iload_n 1, 1) := by decide +kernel
theorem dX11_up_1 : decode cX11_up 1 = .ok (.ifCond .lt 23, 3) := by decide +kernel
theorem dX11_up_4 : decode cX11_up 4 = .ok (.iload_n 1, 1) := by decide +kernel
theorem dX11_up_5 : decode cX11_up 5 = .ok (.aload_n 0, 1) := by decide +kernel
theorem dX11_up_6 : decode cX11_up 6 = .ok (.getfield 19, 3) := by decide +kernel
theorem dX11_up_9 : decode cX11_up 9 = .ok (.getfield 390, 3) := by decide +kernel
theorem dX11_up_12 : decode cX11_up 12 = .ok (.if_icmp .ge 12, 3) := by decide +kernel
theorem dX11_up_15 : decode cX11_up 15 = .ok (.iload_n 2, 1) := by decide +kernel
theorem dX11_up_16 : decode cX11_up 16 = .ok (.ifCond .lt 8, 3) := by decide +kernel
theorem dX11_up_19 : decode cX11_up 19 = .ok (.iload_n 2, 1) := by decide +kernel
theorem dX11_up_20 : decode cX11_up 20 = .ok (.iconst 1, 1) := by decide +kernel
theorem dX11_up_21 : decode cX11_up 21 = .ok (.if_icmp .le 5, 3) := by decide +kernel
theorem dX11_up_24 : decode cX11_up 24 = .ok (.iconst (-1), 1) := by decide +kernel
theorem dX11_up_25 : decode cX11_up 25 = .ok (.ireturn, 1) := by decide +kernel
theorem dX11_up_26 : decode cX11_up 26 = .ok (.iload_n 2, 1) := by decide +kernel
theorem dX11_up_27 : decode cX11_up 27 = .ok (.ifCond .ne 15, 3) := by decide +kernel
theorem dX11_up_30 : decode cX11_up 30 = .ok (.aload_n 0, 1) := by decide +kernel
theorem dX11_up_31 : decode cX11_up 31 = .ok (.getfield 19, 3) := by decide +kernel
theorem dX11_up_34 : decode cX11_up 34 = .ok (.getfield 396, 3) := by decide +kernel
theorem dX11_up_37 : decode cX11_up 37 = .ok (.iload_n 1, 1) := by decide +kernel
theorem dX11_up_38 : decode cX11_up 38 = .ok (.iaload, 1) := by decide +kernel
theorem dX11_up_39 : decode cX11_up 39 = .ok (.goto 11, 3) := by decide +kernel
theorem dX11_up_42 : decode cX11_up 42 = .ok (.aload_n 0, 1) := by decide +kernel
theorem dX11_up_43 : decode cX11_up 43 = .ok (.getfield 19, 3) := by decide +kernel
theorem dX11_up_46 : decode cX11_up 46 = .ok (.iload_n 1, 1) := by decide +kernel
theorem dX11_up_47 : decode cX11_up 47 = .ok (.invokevirtual 393, 3) := by decide +kernel
theorem dX11_up_50 : decode cX11_up 50 = .ok (.ireturn, 1) := by decide +kernel
theorem dX11_raise_0 : decode cX11_raise 0 = .ok (.iload_n 1, 1) := by decide +kernel
theorem dX11_raise_1 : decode cX11_raise 1 = .ok (.ifCond .lt 10, 3) := by decide +kernel
theorem dX11_raise_4 : decode cX11_raise 4 = .ok (.iload_n 1, 1) := by decide +kernel
theorem dX11_raise_5 : decode cX11_raise 5 = .ok (.sipush 199, 3) := by decide +kernel
theorem dX11_raise_8 : decode cX11_raise 8 = .ok (.if_icmp .le 5, 3) := by decide +kernel
theorem dX11_raise_11 : decode cX11_raise 11 = .ok (.iconst (-1), 1) := by decide +kernel
theorem dX11_raise_12 : decode cX11_raise 12 = .ok (.ireturn, 1) := by decide +kernel
theorem dX11_raise_13 : decode cX11_raise 13 = .ok (.aload_n 0, 1) := by decide +kernel
theorem dX11_raise_14 : decode cX11_raise 14 = .ok (.getfield 19, 3) := by decide +kernel
theorem dX11_raise_17 : decode cX11_raise 17 = .ok (.getfield 390, 3) := by decide +kernel
theorem dX11_raise_20 : decode cX11_raise 20 = .ok (.ifCond .ne 8, 3) := by decide +kernel
theorem dX11_raise_23 : decode cX11_raise 23 = .ok (.bipush (-2), 2) := by decide +kernel
theorem dX11_raise_25 : decode cX11_raise 25 = .ok (.goto 11, 3) := by decide +kernel
theorem dX11_raise_28 : decode cX11_raise 28 = .ok (.aload_n 0, 1) := by decide +kernel
theorem dX11_raise_29 : decode cX11_raise 29 = .ok (.getfield 19, 3) := by decide +kernel
theorem dX11_raise_32 : decode cX11_raise 32 = .ok (.iload_n 1, 1) := by decide +kernel
theorem dX11_raise_33 : decode cX11_raise 33 = .ok (.invokevirtual 399, 3) := by decide +kernel
theorem dX11_raise_36 : decode cX11_raise 36 = .ok (.ireturn, 1) := by decide +kernel
theorem dX11_act_0 : decode cX11_act 0 = .ok (.aload_n 0, 1) := by decide +kernel
theorem dX11_act_1 : decode cX11_act 1 = .ok (.getfield 28, 3) := by decide +kernel
theorem dX11_act_4 : decode cX11_act 4 = .ok (.iload_n 1, 1) := by decide +kernel
theorem dX11_act_5 : decode cX11_act 5 = .ok (.iload_n 2, 1) := by decide +kernel
theorem dX11_act_6 : decode cX11_act 6 = .ok (.iload_n 3, 1) := by decide +kernel
theorem dX11_act_7 : decode cX11_act 7 = .ok (.invokevirtual 402, 3) := by decide +kernel
theorem dX11_act_10 : decode cX11_act 10 = .ok (.ireturn, 1) := by decide +kernel
theorem dX11_trace_0 : decode cX11_trace 0 = .ok (.iload_n 1, 1) := by decide +kernel
theorem dX11_trace_1 : decode cX11_trace 1 = .ok (.ifCond .lt 20, 3) := by decide +kernel
theorem dX11_trace_4 : decode cX11_trace 4 = .ok (.iload_n 1, 1) := by decide +kernel
theorem dX11_trace_5 : decode cX11_trace 5 = .ok (.aload_n 0, 1) := by decide +kernel
theorem dX11_trace_6 : decode cX11_trace 6 = .ok (.getfield 28, 3) := by decide +kernel
theorem dX11_trace_9 : decode cX11_trace 9 = .ok (.getfield 405, 3) := by decide +kernel
theorem dX11_trace_12 : decode cX11_trace 12 = .ok (.if_icmp .ge 9, 3) := by decide +kernel
theorem dX11_trace_15 : decode cX11_trace 15 = .ok (.iload_n 1, 1) := by decide +kernel
theorem dX11_trace_16 : decode cX11_trace 16 = .ok (.bipush 24, 2) := by decide +kernel
theorem dX11_trace_18 : decode cX11_trace 18 = .ok (.if_icmp .lt 7, 3) := by decide +kernel
theorem dX11_trace_21 : decode cX11_trace 21 = .ok (.iconst (-1), 1) := by decide +kernel
theorem dX11_trace_22 : decode cX11_trace 22 = .ok (.goto 12, 3) := by decide +kernel
theorem dX11_trace_25 : decode cX11_trace 25 = .ok (.aload_n 0, 1) := by decide +kernel
theorem dX11_trace_26 : decode cX11_trace 26 = .ok (.getfield 28, 3) := by decide +kernel
theorem dX11_trace_29 : decode cX11_trace 29 = .ok (.getfield 408, 3) := by decide +kernel
theorem dX11_trace_32 : decode cX11_trace 32 = .ok (.iload_n 1, 1) := by decide +kernel
theorem dX11_trace_33 : decode cX11_trace 33 = .ok (.iaload, 1) := by decide +kernel
theorem dX11_trace_34 : decode cX11_trace 34 = .ok (.ireturn, 1) := by decide +kernel
theorem dX11_keep_0 : decode cX11_keep 0 = .ok (.aload_n 0, 1) := by decide +kernel
theorem dX11_keep_1 : decode cX11_keep 1 = .ok (.iload_n 1, 1) := by decide +kernel
theorem dX11_keep_2 : decode cX11_keep 2 = .ok (.invokevirtual 190, 3) := by decide +kernel
theorem dX11_keep_5 : decode cX11_keep 5 = .ok (.astore_n 3, 1) := by decide +kernel
theorem dX11_keep_6 : decode cX11_keep 6 = .ok (.aload_n 3, 1) := by decide +kernel
theorem dX11_keep_7 : decode cX11_keep 7 = .ok (.ifnull 19, 3) := by decide +kernel
theorem dX11_keep_10 : decode cX11_keep 10 = .ok (.iload_n 2, 1) := by decide +kernel
theorem dX11_keep_11 : decode cX11_keep 11 = .ok (.iconst (-1), 1) := by decide +kernel
theorem dX11_keep_12 : decode cX11_keep 12 = .ok (.if_icmp .eq 16, 3) := by decide +kernel
theorem dX11_keep_15 : decode cX11_keep 15 = .ok (.aload_n 0, 1) := by decide +kernel
theorem dX11_keep_16 : decode cX11_keep 16 = .ok (.getfield 28, 3) := by decide +kernel
theorem dX11_keep_19 : decode cX11_keep 19 = .ok (.iload_n 2, 1) := by decide +kernel
theorem dX11_keep_20 : decode cX11_keep 20 = .ok (.invokevirtual 135, 3) := by decide +kernel
theorem dX11_keep_23 : decode cX11_keep 23 = .ok (.ifCond .ge 5, 3) := by decide +kernel
theorem dX11_keep_26 : decode cX11_keep 26 = .ok (.iconst (-1), 1) := by decide +kernel
theorem dX11_keep_27 : decode cX11_keep 27 = .ok (.ireturn, 1) := by decide +kernel
theorem dX11_keep_28 : decode cX11_keep 28 = .ok (.aload_n 3, 1) := by decide +kernel
theorem dX11_keep_29 : decode cX11_keep 29 = .ok (.iload_n 2, 1) := by decide +kernel
theorem dX11_keep_30 : decode cX11_keep 30 = .ok (.iconst (-1), 1) := by decide +kernel
theorem dX11_keep_31 : decode cX11_keep 31 = .ok (.if_icmp .ne 7, 3) := by decide +kernel
theorem dX11_keep_34 : decode cX11_keep 34 = .ok (.iconst 0, 1) := by decide +kernel
theorem dX11_keep_35 : decode cX11_keep 35 = .ok (.goto 4, 3) := by decide +kernel
theorem dX11_keep_38 : decode cX11_keep 38 = .ok (.iconst 1, 1) := by decide +kernel
theorem dX11_keep_39 : decode cX11_keep 39 = .ok (.putfield 194, 3) := by decide +kernel
theorem dX11_keep_42 : decode cX11_keep 42 = .ok (.aload_n 3, 1) := by decide +kernel
theorem dX11_keep_43 : decode cX11_keep 43 = .ok (.iload_n 2, 1) := by decide +kernel
theorem dX11_keep_44 : decode cX11_keep 44 = .ok (.putfield 411, 3) := by decide +kernel
theorem dX11_keep_47 : decode cX11_keep 47 = .ok (.iconst 1, 1) := by decide +kernel
theorem dX11_keep_48 : decode cX11_keep 48 = .ok (.ireturn, 1) := by decide +kernel
theorem dX11_row_0 : decode cX11_row 0 = .ok (.aload_n 0, 1) := by decide +kernel
theorem dX11_row_1 : decode cX11_row 1 = .ok (.iload_n 1, 1) := by decide +kernel
theorem dX11_row_2 : decode cX11_row 2 = .ok (.invokevirtual 190, 3) := by decide +kernel
theorem dX11_row_5 : decode cX11_row 5 = .ok (.astore 4, 2) := by decide +kernel
theorem dX11_row_7 : decode cX11_row 7 = .ok (.aload 4, 2) := by decide +kernel
theorem dX11_row_9 : decode cX11_row 9 = .ok (.ifnull 18, 3) := by decide +kernel
theorem dX11_row_12 : decode cX11_row 12 = .ok (.iload_n 2, 1) := by decide +kernel
theorem dX11_row_13 : decode cX11_row 13 = .ok (.ifCond .lt 14, 3) := by decide +kernel
theorem dX11_row_16 : decode cX11_row 16 = .ok (.iload_n 2, 1) := by decide +kernel
theorem dX11_row_17 : decode cX11_row 17 = .ok (.iconst 4, 1) := by decide +kernel
theorem dX11_row_18 : decode cX11_row 18 = .ok (.if_icmp .gt 9, 3) := by decide +kernel
theorem dX11_row_21 : decode cX11_row 21 = .ok (.iload_n 3, 1) := by decide +kernel
theorem dX11_row_22 : decode cX11_row 22 = .ok (.bipush 60, 2) := by decide +kernel
theorem dX11_row_24 : decode cX11_row 24 = .ok (.if_icmp .le 5, 3) := by decide +kernel
theorem dX11_row_27 : decode cX11_row 27 = .ok (.iconst (-1), 1) := by decide +kernel
theorem dX11_row_28 : decode cX11_row 28 = .ok (.ireturn, 1) := by decide +kernel
theorem dX11_row_29 : decode cX11_row 29 = .ok (.iload_n 3, 1) := by decide +kernel
theorem dX11_row_30 : decode cX11_row 30 = .ok (.ifCond .ge 6, 3) := by decide +kernel
theorem dX11_row_33 : decode cX11_row 33 = .ok (.bipush (-14), 2) := by decide +kernel
theorem dX11_row_35 : decode cX11_row 35 = .ok (.ireturn, 1) := by decide +kernel
theorem dX11_row_36 : decode cX11_row 36 = .ok (.aload 4, 2) := by decide +kernel
theorem dX11_row_38 : decode cX11_row 38 = .ok (.iload_n 2, 1) := by decide +kernel
theorem dX11_row_39 : decode cX11_row 39 = .ok (.iload_n 3, 1) := by decide +kernel
theorem dX11_row_40 : decode cX11_row 40 = .ok (.invokevirtual 414, 3) := by decide +kernel
theorem dX11_row_43 : decode cX11_row 43 = .ok (.iconst 1, 1) := by decide +kernel
theorem dX11_row_44 : decode cX11_row 44 = .ok (.ireturn, 1) := by decide +kernel
theorem dX11_put_0 : decode cX11_put 0 = .ok (.aload_n 0, 1) := by decide +kernel
theorem dX11_put_1 : decode cX11_put 1 = .ok (.iload_n 1, 1) := by decide +kernel
theorem dX11_put_2 : decode cX11_put 2 = .ok (.invokevirtual 190, 3) := by decide +kernel
theorem dX11_put_5 : decode cX11_put 5 = .ok (.astore 5, 2) := by decide +kernel
theorem dX11_put_7 : decode cX11_put 7 = .ok (.aload 5, 2) := by decide +kernel
theorem dX11_put_9 : decode cX11_put 9 = .ok (.ifnull 27, 3) := by decide +kernel
theorem dX11_put_12 : decode cX11_put 12 = .ok (.aload 5, 2) := by decide +kernel
theorem dX11_put_14 : decode cX11_put 14 = .ok (.invokevirtual 197, 3) := by decide +kernel
theorem dX11_put_17 : decode cX11_put 17 = .ok (.ifCond .eq 21, 3) := by decide +kernel
theorem dX11_put_20 : decode cX11_put 20 = .ok (.lload_n 3, 1) := by decide +kernel
theorem dX11_put_21 : decode cX11_put 21 = .ok (.ldc2_w 417, 3) := by decide +kernel
theorem dX11_put_24 : decode cX11_put 24 = .ok (.lcmp, 1) := by decide +kernel
theorem dX11_put_25 : decode cX11_put 25 = .ok (.ifCond .lt 11, 3) := by decide +kernel
theorem dX11_put_28 : decode cX11_put 28 = .ok (.lload_n 3, 1) := by decide +kernel
theorem dX11_put_29 : decode cX11_put 29 = .ok (.ldc2_w 419, 3) := by decide +kernel
theorem dX11_put_32 : decode cX11_put 32 = .ok (.lcmp, 1) := by decide +kernel
theorem dX11_put_33 : decode cX11_put 33 = .ok (.ifCond .le 5, 3) := by decide +kernel
theorem dX11_put_36 : decode cX11_put 36 = .ok (.iconst (-1), 1) := by decide +kernel
theorem dX11_put_37 : decode cX11_put 37 = .ok (.ireturn, 1) := by decide +kernel
theorem dX11_put_38 : decode cX11_put 38 = .ok (.aload 5, 2) := by decide +kernel
theorem dX11_put_40 : decode cX11_put 40 = .ok (.iload_n 2, 1) := by decide +kernel
theorem dX11_put_41 : decode cX11_put 41 = .ok (.invokevirtual 421, 3) := by decide +kernel
theorem dX11_put_44 : decode cX11_put 44 = .ok (.istore 6, 2) := by decide +kernel
theorem dX11_put_46 : decode cX11_put 46 = .ok (.iload 6, 2) := by decide +kernel
theorem dX11_put_48 : decode cX11_put 48 = .ok (.ifCond .ne 16, 3) := by decide +kernel
theorem dX11_put_51 : decode cX11_put 51 = .ok (.aload 5, 2) := by decide +kernel
theorem dX11_put_53 : decode cX11_put 53 = .ok (.getfield 424, 3) := by decide +kernel
theorem dX11_put_56 : decode cX11_put 56 = .ok (.iload_n 2, 1) := by decide +kernel
theorem dX11_put_57 : decode cX11_put 57 = .ok (.aload 5, 2) := by decide +kernel
theorem dX11_put_59 : decode cX11_put 59 = .ok (.lload_n 3, 1) := by decide +kernel
theorem dX11_put_60 : decode cX11_put 60 = .ok (.invokevirtual 428, 3) := by decide +kernel
theorem dX11_put_63 : decode cX11_put 63 = .ok (.lastore, 1) := by decide +kernel
theorem dX11_put_64 : decode cX11_put 64 = .ok (.iload 6, 2) := by decide +kernel
theorem dX11_put_66 : decode cX11_put 66 = .ok (.ifCond .ne 7, 3) := by decide +kernel
theorem dX11_put_69 : decode cX11_put 69 = .ok (.iconst 1, 1) := by decide +kernel
theorem dX11_put_70 : decode cX11_put 70 = .ok (.goto 5, 3) := by decide +kernel
theorem dX11_put_73 : decode cX11_put 73 = .ok (.iload 6, 2) := by decide +kernel
theorem dX11_put_75 : decode cX11_put 75 = .ok (.ireturn, 1) := by decide +kernel
theorem dX11_blank_0 : decode cX11_blank 0 = .ok (.aload_n 0, 1) := by decide +kernel
theorem dX11_blank_1 : decode cX11_blank 1 = .ok (.iload_n 1, 1) := by decide +kernel
theorem dX11_blank_2 : decode cX11_blank 2 = .ok (.invokevirtual 190, 3) := by decide +kernel
theorem dX11_blank_5 : decode cX11_blank 5 = .ok (.astore_n 3, 1) := by decide +kernel
theorem dX11_blank_6 : decode cX11_blank 6 = .ok (.aload_n 3, 1) := by decide +kernel
theorem dX11_blank_7 : decode cX11_blank 7 = .ok (.ifnonnull 5, 3) := by decide +kernel
theorem dX11_blank_10 : decode cX11_blank 10 = .ok (.iconst (-1), 1) := by decide +kernel
theorem dX11_blank_11 : decode cX11_blank 11 = .ok (.ireturn, 1) := by decide +kernel
theorem dX11_blank_12 : decode cX11_blank 12 = .ok (.aload_n 3, 1) := by decide +kernel
theorem dX11_blank_13 : decode cX11_blank 13 = .ok (.getfield 194, 3) := by decide +kernel
theorem dX11_blank_16 : decode cX11_blank 16 = .ok (.iconst 2, 1) := by decide +kernel
theorem dX11_blank_17 : decode cX11_blank 17 = .ok (.if_icmp .ne 13, 3) := by decide +kernel
theorem dX11_blank_20 : decode cX11_blank 20 = .ok (.aload_n 3, 1) := by decide +kernel
theorem dX11_blank_21 : decode cX11_blank 21 = .ok (.invokevirtual 197, 3) := by decide +kernel
theorem dX11_blank_24 : decode cX11_blank 24 = .ok (.ifCond .ne 6, 3) := by decide +kernel
theorem dX11_blank_27 : decode cX11_blank 27 = .ok (.bipush (-12), 2) := by decide +kernel
theorem dX11_blank_29 : decode cX11_blank 29 = .ok (.ireturn, 1) := by decide +kernel
theorem dX11_blank_30 : decode cX11_blank 30 = .ok (.aload_n 3, 1) := by decide +kernel
theorem dX11_blank_31 : decode cX11_blank 31 = .ok (.iload_n 2, 1) := by decide +kernel
theorem dX11_blank_32 : decode cX11_blank 32 = .ok (.invokevirtual 421, 3) := by decide +kernel
theorem dX11_blank_35 : decode cX11_blank 35 = .ok (.istore 4, 2) := by decide +kernel
theorem dX11_blank_37 : decode cX11_blank 37 = .ok (.iload 4, 2) := by decide +kernel
theorem dX11_blank_39 : decode cX11_blank 39 = .ok (.ifCond .ne 12, 3) := by decide +kernel
theorem dX11_blank_42 : decode cX11_blank 42 = .ok (.aload_n 3, 1) := by decide +kernel
theorem dX11_blank_43 : decode cX11_blank 43 = .ok (.getfield 424, 3) := by decide +kernel
theorem dX11_blank_46 : decode cX11_blank 46 = .ok (.iload_n 2, 1) := by decide +kernel
theorem dX11_blank_47 : decode cX11_blank 47 = .ok (.ldc2_w 432, 3) := by decide +kernel
theorem dX11_blank_50 : decode cX11_blank 50 = .ok (.lastore, 1) := by decide +kernel
theorem dX11_blank_51 : decode cX11_blank 51 = .ok (.iload 4, 2) := by decide +kernel
theorem dX11_blank_53 : decode cX11_blank 53 = .ok (.ifCond .ne 7, 3) := by decide +kernel
theorem dX11_blank_56 : decode cX11_blank 56 = .ok (.iconst 1, 1) := by decide +kernel
theorem dX11_blank_57 : decode cX11_blank 57 = .ok (.goto 5, 3) := by decide +kernel
theorem dX11_blank_60 : decode cX11_blank 60 = .ok (.iload 4, 2) := by decide +kernel
theorem dX11_blank_62 : decode cX11_blank 62 = .ok (.ireturn, 1) := by decide +kernel
theorem dX11_element_0 : decode cX11_element 0 = .ok (.aload_n 0, 1) := by decide +kernel
theorem dX11_element_1 : decode cX11_element 1 = .ok (.iload_n 1, 1) := by decide +kernel
theorem dX11_element_2 : decode cX11_element 2 = .ok (.invokevirtual 190, 3) := by decide +kernel
theorem dX11_element_5 : decode cX11_element 5 = .ok (.astore_n 3, 1) := by decide +kernel
theorem dX11_element_6 : decode cX11_element 6 = .ok (.aload_n 3, 1) := by decide +kernel
theorem dX11_element_7 : decode cX11_element 7 = .ok (.ifnull 11, 3) := by decide +kernel
theorem dX11_element_10 : decode cX11_element 10 = .ok (.aload_n 3, 1) := by decide +kernel
theorem dX11_element_11 : decode cX11_element 11 = .ok (.iload_n 2, 1) := by decide +kernel
theorem dX11_element_12 : decode cX11_element 12 = .ok (.invokevirtual 421, 3) := by decide +kernel
theorem dX11_element_15 : decode cX11_element 15 = .ok (.ifCond .eq 7, 3) := by decide +kernel
theorem dX11_element_18 : decode cX11_element 18 = .ok (.ldc2_w 434, 3) := by decide +kernel
theorem dX11_element_21 : decode cX11_element 21 = .ok (.lreturn, 1) := by decide +kernel
theorem dX11_element_22 : decode cX11_element 22 = .ok (.aload_n 3, 1) := by decide +kernel
theorem dX11_element_23 : decode cX11_element 23 = .ok (.getfield 424, 3) := by decide +kernel
theorem dX11_element_26 : decode cX11_element 26 = .ok (.iload_n 2, 1) := by decide +kernel
theorem dX11_element_27 : decode cX11_element 27 = .ok (.laload, 1) := by decide +kernel
theorem dX11_element_28 : decode cX11_element 28 = .ok (.lreturn, 1) := by decide +kernel
theorem dX11_shift_0 : decode cX11_shift 0 = .ok (.aload_n 0, 1) := by decide +kernel
theorem dX11_shift_1 : decode cX11_shift 1 = .ok (.iload_n 1, 1) := by decide +kernel
theorem dX11_shift_2 : decode cX11_shift 2 = .ok (.invokevirtual 190, 3) := by decide +kernel
theorem dX11_shift_5 : decode cX11_shift 5 = .ok (.astore 6, 2) := by decide +kernel
theorem dX11_shift_7 : decode cX11_shift 7 = .ok (.aload_n 0, 1) := by decide +kernel
theorem dX11_shift_8 : decode cX11_shift 8 = .ok (.iload_n 3, 1) := by decide +kernel
theorem dX11_shift_9 : decode cX11_shift 9 = .ok (.invokevirtual 190, 3) := by decide +kernel
theorem dX11_shift_12 : decode cX11_shift 12 = .ok (.astore 7, 2) := by decide +kernel
theorem dX11_shift_14 : decode cX11_shift 14 = .ok (.aload 6, 2) := by decide +kernel
theorem dX11_shift_16 : decode cX11_shift 16 = .ok (.ifnull 8, 3) := by decide +kernel
theorem dX11_shift_19 : decode cX11_shift 19 = .ok (.aload 7, 2) := by decide +kernel
theorem dX11_shift_21 : decode cX11_shift 21 = .ok (.ifnonnull 5, 3) := by decide +kernel
theorem dX11_shift_24 : decode cX11_shift 24 = .ok (.iconst (-1), 1) := by decide +kernel
theorem dX11_shift_25 : decode cX11_shift 25 = .ok (.ireturn, 1) := by decide +kernel
theorem dX11_shift_26 : decode cX11_shift 26 = .ok (.aload 6, 2) := by decide +kernel
theorem dX11_shift_28 : decode cX11_shift 28 = .ok (.getfield 194, 3) := by decide +kernel
theorem dX11_shift_31 : decode cX11_shift 31 = .ok (.ifCond .eq 11, 3) := by decide +kernel
theorem dX11_shift_34 : decode cX11_shift 34 = .ok (.aload 7, 2) := by decide +kernel
theorem dX11_shift_36 : decode cX11_shift 36 = .ok (.getfield 194, 3) := by decide +kernel
theorem dX11_shift_39 : decode cX11_shift 39 = .ok (.ifCond .ne 6, 3) := by decide +kernel
theorem dX11_shift_42 : decode cX11_shift 42 = .ok (.bipush (-11), 2) := by decide +kernel
theorem dX11_shift_44 : decode cX11_shift 44 = .ok (.ireturn, 1) := by decide +kernel
theorem dX11_shift_45 : decode cX11_shift 45 = .ok (.aload 6, 2) := by decide +kernel
theorem dX11_shift_47 : decode cX11_shift 47 = .ok (.getfield 194, 3) := by decide +kernel
theorem dX11_shift_50 : decode cX11_shift 50 = .ok (.iconst 2, 1) := by decide +kernel
theorem dX11_shift_51 : decode cX11_shift 51 = .ok (.if_icmp .ne 25, 3) := by decide +kernel
theorem dX11_shift_54 : decode cX11_shift 54 = .ok (.aload 7, 2) := by decide +kernel
theorem dX11_shift_56 : decode cX11_shift 56 = .ok (.getfield 194, 3) := by decide +kernel
theorem dX11_shift_59 : decode cX11_shift 59 = .ok (.iconst 2, 1) := by decide +kernel
theorem dX11_shift_60 : decode cX11_shift 60 = .ok (.if_icmp .ne 16, 3) := by decide +kernel
theorem dX11_shift_63 : decode cX11_shift 63 = .ok (.aload 6, 2) := by decide +kernel
theorem dX11_shift_65 : decode cX11_shift 65 = .ok (.getfield 436, 3) := by decide +kernel
theorem dX11_shift_68 : decode cX11_shift 68 = .ok (.aload 7, 2) := by decide +kernel
theorem dX11_shift_70 : decode cX11_shift 70 = .ok (.getfield 436, 3) := by decide +kernel
theorem dX11_shift_73 : decode cX11_shift 73 = .ok (.if_icmp .eq 6, 3) := by decide +kernel
theorem dX11_shift_76 : decode cX11_shift 76 = .ok (.bipush (-12), 2) := by decide +kernel
theorem dX11_shift_78 : decode cX11_shift 78 = .ok (.ireturn, 1) := by decide +kernel
theorem dX11_shift_79 : decode cX11_shift 79 = .ok (.aload 6, 2) := by decide +kernel
theorem dX11_shift_81 : decode cX11_shift 81 = .ok (.iload_n 2, 1) := by decide +kernel
theorem dX11_shift_82 : decode cX11_shift 82 = .ok (.iload 5, 2) := by decide +kernel
theorem dX11_shift_84 : decode cX11_shift 84 = .ok (.invokevirtual 439, 3) := by decide +kernel
theorem dX11_shift_87 : decode cX11_shift 87 = .ok (.ifCond .eq 15, 3) := by decide +kernel
theorem dX11_shift_90 : decode cX11_shift 90 = .ok (.aload 7, 2) := by decide +kernel
theorem dX11_shift_92 : decode cX11_shift 92 = .ok (.iload 4, 2) := by decide +kernel
theorem dX11_shift_94 : decode cX11_shift 94 = .ok (.iload 5, 2) := by decide +kernel
theorem dX11_shift_96 : decode cX11_shift 96 = .ok (.invokevirtual 439, 3) := by decide +kernel
theorem dX11_shift_99 : decode cX11_shift 99 = .ok (.ifCond .ne 6, 3) := by decide +kernel
theorem dX11_shift_102 : decode cX11_shift 102 = .ok (.bipush (-13), 2) := by decide +kernel
theorem dX11_shift_104 : decode cX11_shift 104 = .ok (.ireturn, 1) := by decide +kernel
theorem dX11_shift_105 : decode cX11_shift 105 = .ok (.aload 6, 2) := by decide +kernel
theorem dX11_shift_107 : decode cX11_shift 107 = .ok (.getfield 424, 3) := by decide +kernel
theorem dX11_shift_110 : decode cX11_shift 110 = .ok (.iload_n 2, 1) := by decide +kernel
theorem dX11_shift_111 : decode cX11_shift 111 = .ok (.aload 7, 2) := by decide +kernel
theorem dX11_shift_113 : decode cX11_shift 113 = .ok (.getfield 424, 3) := by decide +kernel
theorem dX11_shift_116 : decode cX11_shift 116 = .ok (.iload 4, 2) := by decide +kernel
theorem dX11_shift_118 : decode cX11_shift 118 = .ok (.iload 5, 2) := by decide +kernel
theorem dX11_shift_120 : decode cX11_shift 120 = .ok (.invokestatic 442, 3) := by decide +kernel
theorem dX11_shift_123 : decode cX11_shift 123 = .ok (.iload 5, 2) := by decide +kernel
theorem dX11_shift_125 : decode cX11_shift 125 = .ok (.ireturn, 1) := by decide +kernel
theorem dX11_taken_0 : decode cX11_taken 0 = .ok (.aload_n 0, 1) := by decide +kernel
theorem dX11_taken_1 : decode cX11_taken 1 = .ok (.iload_n 1, 1) := by decide +kernel
theorem dX11_taken_2 : decode cX11_taken 2 = .ok (.invokevirtual 190, 3) := by decide +kernel
theorem dX11_taken_5 : decode cX11_taken 5 = .ok (.astore_n 3, 1) := by decide +kernel
theorem dX11_taken_6 : decode cX11_taken 6 = .ok (.aload_n 3, 1) := by decide +kernel
theorem dX11_taken_7 : decode cX11_taken 7 = .ok (.ifnull 13, 3) := by decide +kernel
theorem dX11_taken_10 : decode cX11_taken 10 = .ok (.iload_n 2, 1) := by decide +kernel
theorem dX11_taken_11 : decode cX11_taken 11 = .ok (.ifCond .lt 9, 3) := by decide +kernel
theorem dX11_taken_14 : decode cX11_taken 14 = .ok (.iload_n 2, 1) := by decide +kernel
theorem dX11_taken_15 : decode cX11_taken 15 = .ok (.bipush 7, 2) := by decide +kernel
theorem dX11_taken_17 : decode cX11_taken 17 = .ok (.if_icmp .le 5, 3) := by decide +kernel
theorem dX11_taken_20 : decode cX11_taken 20 = .ok (.iconst (-1), 1) := by decide +kernel
theorem dX11_taken_21 : decode cX11_taken 21 = .ok (.ireturn, 1) := by decide +kernel
theorem dX11_taken_22 : decode cX11_taken 22 = .ok (.aload_n 3, 1) := by decide +kernel
theorem dX11_taken_23 : decode cX11_taken 23 = .ok (.getfield 194, 3) := by decide +kernel
theorem dX11_taken_26 : decode cX11_taken 26 = .ok (.ifCond .ne 6, 3) := by decide +kernel
theorem dX11_taken_29 : decode cX11_taken 29 = .ok (.bipush (-11), 2) := by decide +kernel
theorem dX11_taken_31 : decode cX11_taken 31 = .ok (.ireturn, 1) := by decide +kernel
theorem dX11_taken_32 : decode cX11_taken 32 = .ok (.aload_n 3, 1) := by decide +kernel
theorem dX11_taken_33 : decode cX11_taken 33 = .ok (.getfield 194, 3) := by decide +kernel
theorem dX11_taken_36 : decode cX11_taken 36 = .ok (.iconst 2, 1) := by decide +kernel
theorem dX11_taken_37 : decode cX11_taken 37 = .ok (.if_icmp .eq 18, 3) := by decide +kernel
theorem dX11_taken_40 : decode cX11_taken 40 = .ok (.aload_n 0, 1) := by decide +kernel
theorem dX11_taken_41 : decode cX11_taken 41 = .ok (.getfield 28, 3) := by decide +kernel
theorem dX11_taken_44 : decode cX11_taken 44 = .ok (.aload_n 3, 1) := by decide +kernel
theorem dX11_taken_45 : decode cX11_taken 45 = .ok (.getfield 411, 3) := by decide +kernel
theorem dX11_taken_48 : decode cX11_taken 48 = .ok (.iload_n 2, 1) := by decide +kernel
theorem dX11_taken_49 : decode cX11_taken 49 = .ok (.invokevirtual 448, 3) := by decide +kernel
theorem dX11_taken_52 : decode cX11_taken 52 = .ok (.ifCond .ne 6, 3) := by decide +kernel
theorem dX11_taken_55 : decode cX11_taken 55 = .ok (.bipush (-12), 2) := by decide +kernel
theorem dX11_taken_57 : decode cX11_taken 57 = .ok (.ireturn, 1) := by decide +kernel
theorem dX11_taken_58 : decode cX11_taken 58 = .ok (.aload_n 0, 1) := by decide +kernel
theorem dX11_taken_59 : decode cX11_taken 59 = .ok (.getfield 28, 3) := by decide +kernel
theorem dX11_taken_62 : decode cX11_taken 62 = .ok (.aload_n 3, 1) := by decide +kernel
theorem dX11_taken_63 : decode cX11_taken 63 = .ok (.getfield 411, 3) := by decide +kernel
theorem dX11_taken_66 : decode cX11_taken 66 = .ok (.invokevirtual 135, 3) := by decide +kernel
theorem dX11_taken_69 : decode cX11_taken 69 = .ok (.ireturn, 1) := by decide +kernel
theorem dX11_count_0 : decode cX11_count 0 = .ok (.iload_n 1, 1) := by decide +kernel
theorem dX11_count_1 : decode cX11_count 1 = .ok (.tableswitch 144 0 11 #[63, 71, 79, 84, 92, 97, 102, 107, 115, 120, 128, 136], 63) := by decide +kernel
theorem dX11_count_64 : decode cX11_count 64 = .ok (.aload_n 0, 1) := by decide +kernel
theorem dX11_count_65 : decode cX11_count 65 = .ok (.getfield 28, 3) := by decide +kernel
theorem dX11_count_68 : decode cX11_count 68 = .ok (.getfield 381, 3) := by decide +kernel
theorem dX11_count_71 : decode cX11_count 71 = .ok (.ireturn, 1) := by decide +kernel
theorem dX11_count_72 : decode cX11_count 72 = .ok (.aload_n 0, 1) := by decide +kernel
theorem dX11_count_73 : decode cX11_count 73 = .ok (.getfield 28, 3) := by decide +kernel
theorem dX11_count_76 : decode cX11_count 76 = .ok (.getfield 451, 3) := by decide +kernel
theorem dX11_count_79 : decode cX11_count 79 = .ok (.ireturn, 1) := by decide +kernel
theorem dX11_count_80 : decode cX11_count 80 = .ok (.aload_n 0, 1) := by decide +kernel
theorem dX11_count_81 : decode cX11_count 81 = .ok (.getfield 454, 3) := by decide +kernel
theorem dX11_count_84 : decode cX11_count 84 = .ok (.ireturn, 1) := by decide +kernel
theorem dX11_count_85 : decode cX11_count 85 = .ok (.aload_n 0, 1) := by decide +kernel
theorem dX11_count_86 : decode cX11_count 86 = .ok (.getfield 19, 3) := by decide +kernel
theorem dX11_count_89 : decode cX11_count 89 = .ok (.getfield 301, 3) := by decide +kernel
theorem dX11_count_92 : decode cX11_count 92 = .ok (.ireturn, 1) := by decide +kernel
theorem dX11_count_93 : decode cX11_count 93 = .ok (.aload_n 0, 1) := by decide +kernel
theorem dX11_count_94 : decode cX11_count 94 = .ok (.getfield 168, 3) := by decide +kernel
theorem dX11_count_97 : decode cX11_count 97 = .ok (.ireturn, 1) := by decide +kernel
theorem dX11_count_98 : decode cX11_count 98 = .ok (.aload_n 0, 1) := by decide +kernel
theorem dX11_count_99 : decode cX11_count 99 = .ok (.getfield 220, 3) := by decide +kernel
theorem dX11_count_102 : decode cX11_count 102 = .ok (.ireturn, 1) := by decide +kernel
theorem dX11_count_103 : decode cX11_count 103 = .ok (.aload_n 0, 1) := by decide +kernel
theorem dX11_count_104 : decode cX11_count 104 = .ok (.getfield 267, 3) := by decide +kernel
theorem dX11_count_107 : decode cX11_count 107 = .ok (.ireturn, 1) := by decide +kernel
theorem dX11_count_108 : decode cX11_count 108 = .ok (.aload_n 0, 1) := by decide +kernel
theorem dX11_count_109 : decode cX11_count 109 = .ok (.getfield 48, 3) := by decide +kernel
theorem dX11_count_112 : decode cX11_count 112 = .ok (.getfield 273, 3) := by decide +kernel
theorem dX11_count_115 : decode cX11_count 115 = .ok (.ireturn, 1) := by decide +kernel
theorem dX11_count_116 : decode cX11_count 116 = .ok (.aload_n 0, 1) := by decide +kernel
theorem dX11_count_117 : decode cX11_count 117 = .ok (.getfield 457, 3) := by decide +kernel
theorem dX11_count_120 : decode cX11_count 120 = .ok (.ireturn, 1) := by decide +kernel
theorem dX11_count_121 : decode cX11_count 121 = .ok (.aload_n 0, 1) := by decide +kernel
theorem dX11_count_122 : decode cX11_count 122 = .ok (.getfield 76, 3) := by decide +kernel
theorem dX11_count_125 : decode cX11_count 125 = .ok (.getfield 460, 3) := by decide +kernel
theorem dX11_count_128 : decode cX11_count 128 = .ok (.ireturn, 1) := by decide +kernel
theorem dX11_count_129 : decode cX11_count 129 = .ok (.aload_n 0, 1) := by decide +kernel
theorem dX11_count_130 : decode cX11_count 130 = .ok (.getfield 76, 3) := by decide +kernel
theorem dX11_count_133 : decode cX11_count 133 = .ok (.getfield 310, 3) := by decide +kernel
theorem dX11_count_136 : decode cX11_count 136 = .ok (.ireturn, 1) := by decide +kernel
theorem dX11_count_137 : decode cX11_count 137 = .ok (.aload_n 0, 1) := by decide +kernel
theorem dX11_count_138 : decode cX11_count 138 = .ok (.getfield 28, 3) := by decide +kernel
theorem dX11_count_141 : decode cX11_count 141 = .ok (.getfield 405, 3) := by decide +kernel
theorem dX11_count_144 : decode cX11_count 144 = .ok (.ireturn, 1) := by decide +kernel
theorem dX11_count_145 : decode cX11_count 145 = .ok (.iconst (-1), 1) := by decide +kernel
theorem dX11_count_146 : decode cX11_count 146 = .ok (.ireturn, 1) := by decide +kernel
theorem dX11_isYard_0 : decode cX11_isYard 0 = .ok (.iload_n 0, 1) := by decide +kernel
theorem dX11_isYard_1 : decode cX11_isYard 1 = .ok (.iconst 1, 1) := by decide +kernel
theorem dX11_isYard_2 : decode cX11_isYard 2 = .ok (.if_icmp .lt 13, 3) := by decide +kernel
theorem dX11_isYard_5 : decode cX11_isYard 5 = .ok (.iload_n 0, 1) := by decide +kernel
theorem dX11_isYard_6 : decode cX11_isYard 6 = .ok (.bipush 60, 2) := by decide +kernel
theorem dX11_isYard_8 : decode cX11_isYard 8 = .ok (.if_icmp .gt 7, 3) := by decide +kernel
theorem dX11_isYard_11 : decode cX11_isYard 11 = .ok (.iconst 1, 1) := by decide +kernel
theorem dX11_isYard_12 : decode cX11_isYard 12 = .ok (.goto 4, 3) := by decide +kernel
theorem dX11_isYard_15 : decode cX11_isYard 15 = .ok (.iconst 0, 1) := by decide +kernel
theorem dX11_isYard_16 : decode cX11_isYard 16 = .ok (.ireturn, 1) := by decide +kernel
theorem dX11_isHour_0 : decode cX11_isHour 0 = .ok (.iload_n 0, 1) := by decide +kernel
theorem dX11_isHour_1 : decode cX11_isHour 1 = .ok (.ifCond .lt 14, 3) := by decide +kernel
theorem dX11_isHour_4 : decode cX11_isHour 4 = .ok (.iload_n 0, 1) := by decide +kernel
theorem dX11_isHour_5 : decode cX11_isHour 5 = .ok (.sipush 1699, 3) := by decide +kernel
theorem dX11_isHour_8 : decode cX11_isHour 8 = .ok (.if_icmp .gt 7, 3) := by decide +kernel
theorem dX11_isHour_11 : decode cX11_isHour 11 = .ok (.iconst 1, 1) := by decide +kernel
theorem dX11_isHour_12 : decode cX11_isHour 12 = .ok (.goto 4, 3) := by decide +kernel
theorem dX11_isHour_15 : decode cX11_isHour 15 = .ok (.iconst 0, 1) := by decide +kernel
theorem dX11_isHour_16 : decode cX11_isHour 16 = .ok (.ireturn, 1) := by decide +kernel
theorem dX11_isSpan_0 : decode cX11_isSpan 0 = .ok (.iload_n 0, 1) := by decide +kernel
theorem dX11_isSpan_1 : decode cX11_isSpan 1 = .ok (.ifCond .lt 27, 3) := by decide +kernel
theorem dX11_isSpan_4 : decode cX11_isSpan 4 = .ok (.iload_n 0, 1) := by decide +kernel
theorem dX11_isSpan_5 : decode cX11_isSpan 5 = .ok (.bipush 100, 2) := by decide +kernel
theorem dX11_isSpan_7 : decode cX11_isSpan 7 = .ok (.idiv, 1) := by decide +kernel
theorem dX11_isSpan_8 : decode cX11_isSpan 8 = .ok (.iload_n 0, 1) := by decide +kernel
theorem dX11_isSpan_9 : decode cX11_isSpan 9 = .ok (.bipush 100, 2) := by decide +kernel
theorem dX11_isSpan_11 : decode cX11_isSpan 11 = .ok (.irem, 1) := by decide +kernel
theorem dX11_isSpan_12 : decode cX11_isSpan 12 = .ok (.if_icmp .gt 16, 3) := by decide +kernel
theorem dX11_isSpan_15 : decode cX11_isSpan 15 = .ok (.iload_n 0, 1) := by decide +kernel
theorem dX11_isSpan_16 : decode cX11_isSpan 16 = .ok (.bipush 100, 2) := by decide +kernel
theorem dX11_isSpan_18 : decode cX11_isSpan 18 = .ok (.irem, 1) := by decide +kernel
theorem dX11_isSpan_19 : decode cX11_isSpan 19 = .ok (.bipush 32, 2) := by decide +kernel
theorem dX11_isSpan_21 : decode cX11_isSpan 21 = .ok (.if_icmp .ge 7, 3) := by decide +kernel
theorem dX11_isSpan_24 : decode cX11_isSpan 24 = .ok (.iconst 1, 1) := by decide +kernel
theorem dX11_isSpan_25 : decode cX11_isSpan 25 = .ok (.goto 4, 3) := by decide +kernel
theorem dX11_isSpan_28 : decode cX11_isSpan 28 = .ok (.iconst 0, 1) := by decide +kernel
theorem dX11_isSpan_29 : decode cX11_isSpan 29 = .ok (.ireturn, 1) := by decide +kernel
theorem dX11_isOrder_0 : decode cX11_isOrder 0 = .ok (.iload_n 0, 1) := by decide +kernel
theorem dX11_isOrder_1 : decode cX11_isOrder 1 = .ok (.ifCond .lt 23, 3) := by decide +kernel
theorem dX11_isOrder_4 : decode cX11_isOrder 4 = .ok (.iload_n 0, 1) := by decide +kernel
theorem dX11_isOrder_5 : decode cX11_isOrder 5 = .ok (.bipush 10, 2) := by decide +kernel
theorem dX11_isOrder_7 : decode cX11_isOrder 7 = .ok (.idiv, 1) := by decide +kernel
theorem dX11_isOrder_8 : decode cX11_isOrder 8 = .ok (.iconst 1, 1) := by decide +kernel
theorem dX11_isOrder_9 : decode cX11_isOrder 9 = .ok (.if_icmp .gt 15, 3) := by decide +kernel
theorem dX11_isOrder_12 : decode cX11_isOrder 12 = .ok (.iload_n 0, 1) := by decide +kernel
theorem dX11_isOrder_13 : decode cX11_isOrder 13 = .ok (.bipush 10, 2) := by decide +kernel
theorem dX11_isOrder_15 : decode cX11_isOrder 15 = .ok (.irem, 1) := by decide +kernel
theorem dX11_isOrder_16 : decode cX11_isOrder 16 = .ok (.iconst 2, 1) := by decide +kernel
theorem dX11_isOrder_17 : decode cX11_isOrder 17 = .ok (.if_icmp .gt 7, 3) := by decide +kernel
theorem dX11_isOrder_20 : decode cX11_isOrder 20 = .ok (.iconst 1, 1) := by decide +kernel
theorem dX11_isOrder_21 : decode cX11_isOrder 21 = .ok (.goto 4, 3) := by decide +kernel
theorem dX11_isOrder_24 : decode cX11_isOrder 24 = .ok (.iconst 0, 1) := by decide +kernel
theorem dX11_isOrder_25 : decode cX11_isOrder 25 = .ok (.ireturn, 1) := by decide +kernel
theorem dX11_isThing_0 : decode cX11_isThing 0 = .ok (.iload_n 0, 1) := by decide +kernel
theorem dX11_isThing_1 : decode cX11_isThing 1 = .ok (.bipush 10, 2) := by decide +kernel
theorem dX11_isThing_3 : decode cX11_isThing 3 = .ok (.if_icmp .ge 5, 3) := by decide +kernel
theorem dX11_isThing_6 : decode cX11_isThing 6 = .ok (.iconst 0, 1) := by decide +kernel
theorem dX11_isThing_7 : decode cX11_isThing 7 = .ok (.ireturn, 1) := by decide +kernel
theorem dX11_isThing_8 : decode cX11_isThing 8 = .ok (.iload_n 0, 1) := by decide +kernel
theorem dX11_isThing_9 : decode cX11_isThing 9 = .ok (.bipush 10, 2) := by decide +kernel
theorem dX11_isThing_11 : decode cX11_isThing 11 = .ok (.irem, 1) := by decide +kernel
theorem dX11_isThing_12 : decode cX11_isThing 12 = .ok (.ifCond .ne 21, 3) := by decide +kernel
theorem dX11_isThing_15 : decode cX11_isThing 15 = .ok (.iload_n 0, 1) := by decide +kernel
theorem dX11_isThing_16 : decode cX11_isThing 16 = .ok (.bipush 10, 2) := by decide +kernel
theorem dX11_isThing_18 : decode cX11_isThing 18 = .ok (.idiv, 1) := by decide +kernel
theorem dX11_isThing_19 : decode cX11_isThing 19 = .ok (.sipush 999, 3) := by decide +kernel
theorem dX11_isThing_22 : decode cX11_isThing 22 = .ok (.if_icmp .gt 7, 3) := by decide +kernel
theorem dX11_isThing_25 : decode cX11_isThing 25 = .ok (.iconst 1, 1) := by decide +kernel
theorem dX11_isThing_26 : decode cX11_isThing 26 = .ok (.goto 20, 3) := by decide +kernel
theorem dX11_isThing_29 : decode cX11_isThing 29 = .ok (.iconst 0, 1) := by decide +kernel
theorem dX11_isThing_30 : decode cX11_isThing 30 = .ok (.goto 16, 3) := by decide +kernel
theorem dX11_isThing_33 : decode cX11_isThing 33 = .ok (.iload_n 0, 1) := by decide +kernel
theorem dX11_isThing_34 : decode cX11_isThing 34 = .ok (.bipush 10, 2) := by decide +kernel
theorem dX11_isThing_36 : decode cX11_isThing 36 = .ok (.idiv, 1) := by decide +kernel
theorem dX11_isThing_37 : decode cX11_isThing 37 = .ok (.iconst 1, 1) := by decide +kernel
theorem dX11_isThing_38 : decode cX11_isThing 38 = .ok (.if_icmp .ne 7, 3) := by decide +kernel
theorem dX11_isThing_41 : decode cX11_isThing 41 = .ok (.iconst 1, 1) := by decide +kernel
theorem dX11_isThing_42 : decode cX11_isThing 42 = .ok (.goto 4, 3) := by decide +kernel
theorem dX11_isThing_45 : decode cX11_isThing 45 = .ok (.iconst 0, 1) := by decide +kernel
theorem dX11_isThing_46 : decode cX11_isThing 46 = .ok (.ireturn, 1) := by decide +kernel
theorem dX11_placeOf_0 : decode cX11_placeOf 0 = .ok (.iload_n 0, 1) := by decide +kernel
theorem dX11_placeOf_1 : decode cX11_placeOf 1 = .ok (.ifCond .lt 22, 3) := by decide +kernel
theorem dX11_placeOf_4 : decode cX11_placeOf 4 = .ok (.iload_n 0, 1) := by decide +kernel
theorem dX11_placeOf_5 : decode cX11_placeOf 5 = .ok (.bipush 100, 2) := by decide +kernel
theorem dX11_placeOf_7 : decode cX11_placeOf 7 = .ok (.idiv, 1) := by decide +kernel
theorem dX11_placeOf_8 : decode cX11_placeOf 8 = .ok (.bipush 32, 2) := by decide +kernel
theorem dX11_placeOf_10 : decode cX11_placeOf 10 = .ok (.if_icmp .ge 13, 3) := by decide +kernel
theorem dX11_placeOf_13 : decode cX11_placeOf 13 = .ok (.iload_n 0, 1) := by decide +kernel
theorem dX11_placeOf_14 : decode cX11_placeOf 14 = .ok (.bipush 100, 2) := by decide +kernel
theorem dX11_placeOf_16 : decode cX11_placeOf 16 = .ok (.irem, 1) := by decide +kernel
theorem dX11_placeOf_17 : decode cX11_placeOf 17 = .ok (.invokestatic 122, 3) := by decide +kernel
theorem dX11_placeOf_20 : decode cX11_placeOf 20 = .ok (.ifCond .ne 5, 3) := by decide +kernel
theorem dX11_placeOf_23 : decode cX11_placeOf 23 = .ok (.iconst (-1), 1) := by decide +kernel
theorem dX11_placeOf_24 : decode cX11_placeOf 24 = .ok (.ireturn, 1) := by decide +kernel
theorem dX11_placeOf_25 : decode cX11_placeOf 25 = .ok (.iload_n 0, 1) := by decide +kernel
theorem dX11_placeOf_26 : decode cX11_placeOf 26 = .ok (.bipush 100, 2) := by decide +kernel
theorem dX11_placeOf_28 : decode cX11_placeOf 28 = .ok (.idiv, 1) := by decide +kernel
theorem dX11_placeOf_29 : decode cX11_placeOf 29 = .ok (.bipush 60, 2) := by decide +kernel
theorem dX11_placeOf_31 : decode cX11_placeOf 31 = .ok (.imul, 1) := by decide +kernel
theorem dX11_placeOf_32 : decode cX11_placeOf 32 = .ok (.iload_n 0, 1) := by decide +kernel
theorem dX11_placeOf_33 : decode cX11_placeOf 33 = .ok (.bipush 100, 2) := by decide +kernel
theorem dX11_placeOf_35 : decode cX11_placeOf 35 = .ok (.irem, 1) := by decide +kernel
theorem dX11_placeOf_36 : decode cX11_placeOf 36 = .ok (.iadd, 1) := by decide +kernel
theorem dX11_placeOf_37 : decode cX11_placeOf 37 = .ok (.iconst 1, 1) := by decide +kernel
theorem dX11_placeOf_38 : decode cX11_placeOf 38 = .ok (.isub, 1) := by decide +kernel
theorem dX11_placeOf_39 : decode cX11_placeOf 39 = .ok (.ireturn, 1) := by decide +kernel
theorem dX11_held_0 : decode cX11_held 0 = .ok (.iload_n 1, 1) := by decide +kernel
theorem dX11_held_1 : decode cX11_held 1 = .ok (.iload_n 2, 1) := by decide +kernel
theorem dX11_held_2 : decode cX11_held 2 = .ok (.iload_n 0, 1) := by decide +kernel
theorem dX11_held_3 : decode cX11_held 3 = .ok (.invokestatic 255, 3) := by decide +kernel
theorem dX11_held_6 : decode cX11_held 6 = .ok (.invokestatic 247, 3) := by decide +kernel
theorem dX11_held_9 : decode cX11_held 9 = .ok (.ireturn, 1) := by decide +kernel
theorem dX11_cutDown_0 : decode cX11_cutDown 0 = .ok (.iload_n 0, 1) := by decide +kernel
theorem dX11_cutDown_1 : decode cX11_cutDown 1 = .ok (.iconst 4, 1) := by decide +kernel
theorem dX11_cutDown_2 : decode cX11_cutDown 2 = .ok (.invokestatic 463, 3) := by decide +kernel
theorem dX11_cutDown_5 : decode cX11_cutDown 5 = .ok (.iconst 0, 1) := by decide +kernel
theorem dX11_cutDown_6 : decode cX11_cutDown 6 = .ok (.bipush 31, 2) := by decide +kernel
theorem dX11_cutDown_8 : decode cX11_cutDown 8 = .ok (.invokestatic 466, 3) := by decide +kernel
theorem dX11_cutDown_11 : decode cX11_cutDown 11 = .ok (.ireturn, 1) := by decide +kernel
theorem dX11_cutUp_0 : decode cX11_cutUp 0 = .ok (.iload_n 0, 1) := by decide +kernel
theorem dX11_cutUp_1 : decode cX11_cutUp 1 = .ok (.ineg, 1) := by decide +kernel
theorem dX11_cutUp_2 : decode cX11_cutUp 2 = .ok (.iconst 4, 1) := by decide +kernel
theorem dX11_cutUp_3 : decode cX11_cutUp 3 = .ok (.invokestatic 463, 3) := by decide +kernel
theorem dX11_cutUp_6 : decode cX11_cutUp 6 = .ok (.ineg, 1) := by decide +kernel
theorem dX11_cutUp_7 : decode cX11_cutUp 7 = .ok (.iconst 0, 1) := by decide +kernel
theorem dX11_cutUp_8 : decode cX11_cutUp 8 = .ok (.bipush 31, 2) := by decide +kernel
theorem dX11_cutUp_10 : decode cX11_cutUp 10 = .ok (.invokestatic 466, 3) := by decide +kernel
theorem dX11_cutUp_13 : decode cX11_cutUp 13 = .ok (.ireturn, 1) := by decide +kernel
theorem dX11_machineOf_0 : decode cX11_machineOf 0 = .ok (.iload_n 1, 1) := by decide +kernel
theorem dX11_machineOf_1 : decode cX11_machineOf 1 = .ok (.ifCond .lt 8, 3) := by decide +kernel
theorem dX11_machineOf_4 : decode cX11_machineOf 4 = .ok (.iload_n 1, 1) := by decide +kernel
theorem dX11_machineOf_5 : decode cX11_machineOf 5 = .ok (.iconst 3, 1) := by decide +kernel
theorem dX11_machineOf_6 : decode cX11_machineOf 6 = .ok (.if_icmp .lt 7, 3) := by decide +kernel
theorem dX11_machineOf_9 : decode cX11_machineOf 9 = .ok (.aconst_null, 1) := by decide +kernel
theorem dX11_machineOf_10 : decode cX11_machineOf 10 = .ok (.goto 9, 3) := by decide +kernel
theorem dX11_machineOf_13 : decode cX11_machineOf 13 = .ok (.aload_n 0, 1) := by decide +kernel
theorem dX11_machineOf_14 : decode cX11_machineOf 14 = .ok (.getfield 34, 3) := by decide +kernel
theorem dX11_machineOf_17 : decode cX11_machineOf 17 = .ok (.iload_n 1, 1) := by decide +kernel
theorem dX11_machineOf_18 : decode cX11_machineOf 18 = .ok (.aaload, 1) := by decide +kernel
theorem dX11_machineOf_19 : decode cX11_machineOf 19 = .ok (.areturn, 1) := by decide +kernel
theorem dX11_chartOf_0 : decode cX11_chartOf 0 = .ok (.iload_n 1, 1) := by decide +kernel
theorem dX11_chartOf_1 : decode cX11_chartOf 1 = .ok (.ifCond .lt 11, 3) := by decide +kernel
theorem dX11_chartOf_4 : decode cX11_chartOf 4 = .ok (.iload_n 1, 1) := by decide +kernel
theorem dX11_chartOf_5 : decode cX11_chartOf 5 = .ok (.aload_n 0, 1) := by decide +kernel
theorem dX11_chartOf_6 : decode cX11_chartOf 6 = .ok (.getfield 220, 3) := by decide +kernel
theorem dX11_chartOf_9 : decode cX11_chartOf 9 = .ok (.if_icmp .lt 7, 3) := by decide +kernel
theorem dX11_chartOf_12 : decode cX11_chartOf 12 = .ok (.aconst_null, 1) := by decide +kernel
theorem dX11_chartOf_13 : decode cX11_chartOf 13 = .ok (.goto 9, 3) := by decide +kernel
theorem dX11_chartOf_16 : decode cX11_chartOf 16 = .ok (.aload_n 0, 1) := by decide +kernel
theorem dX11_chartOf_17 : decode cX11_chartOf 17 = .ok (.getfield 41, 3) := by decide +kernel
theorem dX11_chartOf_20 : decode cX11_chartOf 20 = .ok (.iload_n 1, 1) := by decide +kernel
theorem dX11_chartOf_21 : decode cX11_chartOf 21 = .ok (.aaload, 1) := by decide +kernel
theorem dX11_chartOf_22 : decode cX11_chartOf 22 = .ok (.areturn, 1) := by decide +kernel
theorem dX11_shelfOf_0 : decode cX11_shelfOf 0 = .ok (.iload_n 1, 1) := by decide +kernel
theorem dX11_shelfOf_1 : decode cX11_shelfOf 1 = .ok (.ifCond .lt 9, 3) := by decide +kernel
theorem dX11_shelfOf_4 : decode cX11_shelfOf 4 = .ok (.iload_n 1, 1) := by decide +kernel
theorem dX11_shelfOf_5 : decode cX11_shelfOf 5 = .ok (.bipush 6, 2) := by decide +kernel
theorem dX11_shelfOf_7 : decode cX11_shelfOf 7 = .ok (.if_icmp .lt 7, 3) := by decide +kernel
theorem dX11_shelfOf_10 : decode cX11_shelfOf 10 = .ok (.aconst_null, 1) := by decide +kernel
theorem dX11_shelfOf_11 : decode cX11_shelfOf 11 = .ok (.goto 9, 3) := by decide +kernel
theorem dX11_shelfOf_14 : decode cX11_shelfOf 14 = .ok (.aload_n 0, 1) := by decide +kernel
theorem dX11_shelfOf_15 : decode cX11_shelfOf 15 = .ok (.getfield 89, 3) := by decide +kernel
theorem dX11_shelfOf_18 : decode cX11_shelfOf 18 = .ok (.iload_n 1, 1) := by decide +kernel
theorem dX11_shelfOf_19 : decode cX11_shelfOf 19 = .ok (.aaload, 1) := by decide +kernel
theorem dX11_shelfOf_20 : decode cX11_shelfOf 20 = .ok (.areturn, 1) := by decide +kernel
theorem dX11_firstUnlike_0 : decode cX11_firstUnlike 0 = .ok (.iconst 0, 1) := by decide +kernel
theorem dX11_firstUnlike_1 : decode cX11_firstUnlike 1 = .ok (.istore_n 2, 1) := by decide +kernel
theorem dX11_firstUnlike_2 : decode cX11_firstUnlike 2 = .ok (.iload_n 2, 1) := by decide +kernel
theorem dX11_firstUnlike_3 : decode cX11_firstUnlike 3 = .ok (.aload_n 0, 1) := by decide +kernel
theorem dX11_firstUnlike_4 : decode cX11_firstUnlike 4 = .ok (.getfield 28, 3) := by decide +kernel
theorem dX11_firstUnlike_7 : decode cX11_firstUnlike 7 = .ok (.getfield 381, 3) := by decide +kernel
theorem dX11_firstUnlike_10 : decode cX11_firstUnlike 10 = .ok (.if_icmp .ge 47, 3) := by decide +kernel
theorem dX11_firstUnlike_13 : decode cX11_firstUnlike 13 = .ok (.aload_n 0, 1) := by decide +kernel
theorem dX11_firstUnlike_14 : decode cX11_firstUnlike 14 = .ok (.getfield 28, 3) := by decide +kernel
theorem dX11_firstUnlike_17 : decode cX11_firstUnlike 17 = .ok (.iload_n 2, 1) := by decide +kernel
theorem dX11_firstUnlike_18 : decode cX11_firstUnlike 18 = .ok (.invokevirtual 139, 3) := by decide +kernel
theorem dX11_firstUnlike_21 : decode cX11_firstUnlike 21 = .ok (.astore_n 3, 1) := by decide +kernel
theorem dX11_firstUnlike_22 : decode cX11_firstUnlike 22 = .ok (.aload_n 3, 1) := by decide +kernel
theorem dX11_firstUnlike_23 : decode cX11_firstUnlike 23 = .ok (.ifnonnull 7, 3) := by decide +kernel
theorem dX11_firstUnlike_26 : decode cX11_firstUnlike 26 = .ok (.iconst 0, 1) := by decide +kernel
theorem dX11_firstUnlike_27 : decode cX11_firstUnlike 27 = .ok (.goto 9, 3) := by decide +kernel
theorem dX11_firstUnlike_30 : decode cX11_firstUnlike 30 = .ok (.aload_n 0, 1) := by decide +kernel
theorem dX11_firstUnlike_31 : decode cX11_firstUnlike 31 = .ok (.aload_n 1, 1) := by decide +kernel
theorem dX11_firstUnlike_32 : decode cX11_firstUnlike 32 = .ok (.aload_n 3, 1) := by decide +kernel
theorem dX11_firstUnlike_33 : decode cX11_firstUnlike 33 = .ok (.invokevirtual 469, 3) := by decide +kernel
theorem dX11_firstUnlike_36 : decode cX11_firstUnlike 36 = .ok (.istore 4, 2) := by decide +kernel
theorem dX11_firstUnlike_38 : decode cX11_firstUnlike 38 = .ok (.iload 4, 2) := by decide +kernel
theorem dX11_firstUnlike_40 : decode cX11_firstUnlike 40 = .ok (.ifCond .le 11, 3) := by decide +kernel
theorem dX11_firstUnlike_43 : decode cX11_firstUnlike 43 = .ok (.bipush 100, 2) := by decide +kernel
theorem dX11_firstUnlike_45 : decode cX11_firstUnlike 45 = .ok (.iload_n 2, 1) := by decide +kernel
theorem dX11_firstUnlike_46 : decode cX11_firstUnlike 46 = .ok (.imul, 1) := by decide +kernel
theorem dX11_firstUnlike_47 : decode cX11_firstUnlike 47 = .ok (.iload 4, 2) := by decide +kernel
theorem dX11_firstUnlike_49 : decode cX11_firstUnlike 49 = .ok (.iadd, 1) := by decide +kernel
theorem dX11_firstUnlike_50 : decode cX11_firstUnlike 50 = .ok (.ireturn, 1) := by decide +kernel
theorem dX11_firstUnlike_51 : decode cX11_firstUnlike 51 = .ok (.iinc 2 1, 3) := by decide +kernel
theorem dX11_firstUnlike_54 : decode cX11_firstUnlike 54 = .ok (.goto (-52), 3) := by decide +kernel
theorem dX11_firstUnlike_57 : decode cX11_firstUnlike 57 = .ok (.bipush (-2), 2) := by decide +kernel
theorem dX11_firstUnlike_59 : decode cX11_firstUnlike 59 = .ok (.ireturn, 1) := by decide +kernel
theorem dX11_firstUnlikeYard_0 : decode cX11_firstUnlikeYard 0 = .ok (.iconst 4, 1) := by decide +kernel
theorem dX11_firstUnlikeYard_1 : decode cX11_firstUnlikeYard 1 = .ok (.aload_n 2, 1) := by decide +kernel
theorem dX11_firstUnlikeYard_2 : decode cX11_firstUnlikeYard 2 = .ok (.getfield 205, 3) := by decide +kernel
theorem dX11_firstUnlikeYard_5 : decode cX11_firstUnlikeYard 5 = .ok (.imul, 1) := by decide +kernel
theorem dX11_firstUnlikeYard_6 : decode cX11_firstUnlikeYard 6 = .ok (.istore_n 3, 1) := by decide +kernel
theorem dX11_firstUnlikeYard_7 : decode cX11_firstUnlikeYard 7 = .ok (.iload_n 3, 1) := by decide +kernel
theorem dX11_firstUnlikeYard_8 : decode cX11_firstUnlikeYard 8 = .ok (.istore 4, 2) := by decide +kernel
theorem dX11_firstUnlikeYard_10 : decode cX11_firstUnlikeYard 10 = .ok (.iconst 1, 1) := by decide +kernel
theorem dX11_firstUnlikeYard_11 : decode cX11_firstUnlikeYard 11 = .ok (.istore 5, 2) := by decide +kernel
theorem dX11_firstUnlikeYard_13 : decode cX11_firstUnlikeYard 13 = .ok (.iload 5, 2) := by decide +kernel
theorem dX11_firstUnlikeYard_15 : decode cX11_firstUnlikeYard 15 = .ok (.aload_n 2, 1) := by decide +kernel
theorem dX11_firstUnlikeYard_16 : decode cX11_firstUnlikeYard 16 = .ok (.getfield 184, 3) := by decide +kernel
theorem dX11_firstUnlikeYard_19 : decode cX11_firstUnlikeYard 19 = .ok (.if_icmp .gt 65, 3) := by decide +kernel
theorem dX11_firstUnlikeYard_22 : decode cX11_firstUnlikeYard 22 = .ok (.iload_n 3, 1) := by decide +kernel
theorem dX11_firstUnlikeYard_23 : decode cX11_firstUnlikeYard 23 = .ok (.aload_n 2, 1) := by decide +kernel
theorem dX11_firstUnlikeYard_24 : decode cX11_firstUnlikeYard 24 = .ok (.iload 5, 2) := by decide +kernel
theorem dX11_firstUnlikeYard_26 : decode cX11_firstUnlikeYard 26 = .ok (.aload_n 0, 1) := by decide +kernel
theorem dX11_firstUnlikeYard_27 : decode cX11_firstUnlikeYard 27 = .ok (.getfield 94, 3) := by decide +kernel
theorem dX11_firstUnlikeYard_30 : decode cX11_firstUnlikeYard 30 = .ok (.invokevirtual 208, 3) := by decide +kernel
theorem dX11_firstUnlikeYard_33 : decode cX11_firstUnlikeYard 33 = .ok (.iadd, 1) := by decide +kernel
