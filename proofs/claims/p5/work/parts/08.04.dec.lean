theorem dX1_init_0 : decode cX1_init 0 = .ok (.aload_n 0, 1) := by decide +kernel
theorem dX1_init_1 : decode cX1_init 1 = .ok (.invokespecial 3, 3) := by decide +kernel
theorem dX1_init_4 : decode cX1_init 4 = .ok (.aload_n 0, 1) := by decide +kernel
theorem dX1_init_5 : decode cX1_init 5 = .ok (.bipush 61, 2) := by decide +kernel
theorem dX1_init_7 : decode cX1_init 7 = .ok (.newarray .int, 2) := by decide +kernel
theorem dX1_init_9 : decode cX1_init 9 = .ok (.putfield 9, 3) := by decide +kernel
theorem dX1_init_12 : decode cX1_init 12 = .ok (.aload_n 0, 1) := by decide +kernel
theorem dX1_init_13 : decode cX1_init 13 = .ok (.iload_n 1, 1) := by decide +kernel
theorem dX1_init_14 : decode cX1_init 14 = .ok (.putfield 15, 3) := by decide +kernel
theorem dX1_init_17 : decode cX1_init 17 = .ok (.aload_n 0, 1) := by decide +kernel
theorem dX1_init_18 : decode cX1_init 18 = .ok (.iload_n 2, 1) := by decide +kernel
theorem dX1_init_19 : decode cX1_init 19 = .ok (.putfield 19, 3) := by decide +kernel
theorem dX1_init_22 : decode cX1_init 22 = .ok (.aload_n 0, 1) := by decide +kernel
theorem dX1_init_23 : decode cX1_init 23 = .ok (.iload_n 3, 1) := by decide +kernel
theorem dX1_init_24 : decode cX1_init 24 = .ok (.putfield 22, 3) := by decide +kernel
theorem dX1_init_27 : decode cX1_init 27 = .ok (.return_, 1) := by decide +kernel
theorem dX1_bits_0 : decode cX1_bits 0 = .ok (.iconst (-1), 1) := by decide +kernel
theorem dX1_bits_1 : decode cX1_bits 1 = .ok (.iload_n 0, 1) := by decide +kernel
theorem dX1_bits_2 : decode cX1_bits 2 = .ok (.ishl, 1) := by decide +kernel
theorem dX1_bits_3 : decode cX1_bits 3 = .ok (.iconst (-1), 1) := by decide +kernel
theorem dX1_bits_4 : decode cX1_bits 4 = .ok (.bipush 31, 2) := by decide +kernel
theorem dX1_bits_6 : decode cX1_bits 6 = .ok (.iload_n 1, 1) := by decide +kernel
theorem dX1_bits_7 : decode cX1_bits 7 = .ok (.isub, 1) := by decide +kernel
theorem dX1_bits_8 : decode cX1_bits 8 = .ok (.iushr, 1) := by decide +kernel
theorem dX1_bits_9 : decode cX1_bits 9 = .ok (.iand, 1) := by decide +kernel
theorem dX1_bits_10 : decode cX1_bits 10 = .ok (.ireturn, 1) := by decide +kernel
theorem dX1_lists_0 : decode cX1_lists 0 = .ok (.iload_n 2, 1) := by decide +kernel
theorem dX1_lists_1 : decode cX1_lists 1 = .ok (.invokestatic 25, 3) := by decide +kernel
theorem dX1_lists_4 : decode cX1_lists 4 = .ok (.ifCond .eq 22, 3) := by decide +kernel
theorem dX1_lists_7 : decode cX1_lists 7 = .ok (.aload_n 0, 1) := by decide +kernel
theorem dX1_lists_8 : decode cX1_lists 8 = .ok (.getfield 9, 3) := by decide +kernel
theorem dX1_lists_11 : decode cX1_lists 11 = .ok (.iload_n 2, 1) := by decide +kernel
theorem dX1_lists_12 : decode cX1_lists 12 = .ok (.iaload, 1) := by decide +kernel
theorem dX1_lists_13 : decode cX1_lists 13 = .ok (.iload_n 1, 1) := by decide +kernel
theorem dX1_lists_14 : decode cX1_lists 14 = .ok (.iload_n 1, 1) := by decide +kernel
theorem dX1_lists_15 : decode cX1_lists 15 = .ok (.invokestatic 29, 3) := by decide +kernel
theorem dX1_lists_18 : decode cX1_lists 18 = .ok (.iand, 1) := by decide +kernel
theorem dX1_lists_19 : decode cX1_lists 19 = .ok (.ifCond .eq 7, 3) := by decide +kernel
theorem dX1_lists_22 : decode cX1_lists 22 = .ok (.iconst 1, 1) := by decide +kernel
theorem dX1_lists_23 : decode cX1_lists 23 = .ok (.goto 4, 3) := by decide +kernel
theorem dX1_lists_26 : decode cX1_lists 26 = .ok (.iconst 0, 1) := by decide +kernel
theorem dX1_lists_27 : decode cX1_lists 27 = .ok (.ireturn, 1) := by decide +kernel
theorem dX1_listed_0 : decode cX1_listed 0 = .ok (.aload_n 0, 1) := by decide +kernel
theorem dX1_listed_1 : decode cX1_listed 1 = .ok (.getfield 33, 3) := by decide +kernel
theorem dX1_listed_4 : decode cX1_listed 4 = .ok (.bipush 40, 2) := by decide +kernel
theorem dX1_listed_6 : decode cX1_listed 6 = .ok (.if_icmp .lt 6, 3) := by decide +kernel
theorem dX1_listed_9 : decode cX1_listed 9 = .ok (.bipush (-3), 2) := by decide +kernel
theorem dX1_listed_11 : decode cX1_listed 11 = .ok (.ireturn, 1) := by decide +kernel
theorem dX1_listed_12 : decode cX1_listed 12 = .ok (.iload_n 2, 1) := by decide +kernel
theorem dX1_listed_13 : decode cX1_listed 13 = .ok (.invokestatic 25, 3) := by decide +kernel
theorem dX1_listed_16 : decode cX1_listed 16 = .ok (.ifCond .eq 27, 3) := by decide +kernel
theorem dX1_listed_19 : decode cX1_listed 19 = .ok (.aload_n 0, 1) := by decide +kernel
theorem dX1_listed_20 : decode cX1_listed 20 = .ok (.getfield 9, 3) := by decide +kernel
theorem dX1_listed_23 : decode cX1_listed 23 = .ok (.iload_n 2, 1) := by decide +kernel
theorem dX1_listed_24 : decode cX1_listed 24 = .ok (.dup2, 1) := by decide +kernel
theorem dX1_listed_25 : decode cX1_listed 25 = .ok (.iaload, 1) := by decide +kernel
theorem dX1_listed_26 : decode cX1_listed 26 = .ok (.iload_n 1, 1) := by decide +kernel
theorem dX1_listed_27 : decode cX1_listed 27 = .ok (.iload_n 1, 1) := by decide +kernel
theorem dX1_listed_28 : decode cX1_listed 28 = .ok (.invokestatic 29, 3) := by decide +kernel
theorem dX1_listed_31 : decode cX1_listed 31 = .ok (.ior, 1) := by decide +kernel
theorem dX1_listed_32 : decode cX1_listed 32 = .ok (.iastore, 1) := by decide +kernel
theorem dX1_listed_33 : decode cX1_listed 33 = .ok (.aload_n 0, 1) := by decide +kernel
theorem dX1_listed_34 : decode cX1_listed 34 = .ok (.dup, 1) := by decide +kernel
theorem dX1_listed_35 : decode cX1_listed 35 = .ok (.getfield 33, 3) := by decide +kernel
theorem dX1_listed_38 : decode cX1_listed 38 = .ok (.iconst 1, 1) := by decide +kernel
theorem dX1_listed_39 : decode cX1_listed 39 = .ok (.iadd, 1) := by decide +kernel
theorem dX1_listed_40 : decode cX1_listed 40 = .ok (.putfield 33, 3) := by decide +kernel
theorem dX1_listed_43 : decode cX1_listed 43 = .ok (.aload_n 0, 1) := by decide +kernel
theorem dX1_listed_44 : decode cX1_listed 44 = .ok (.getfield 33, 3) := by decide +kernel
theorem dX1_listed_47 : decode cX1_listed 47 = .ok (.ireturn, 1) := by decide +kernel
theorem dX1_isUnlike_0 : decode cX1_isUnlike 0 = .ok (.iload_n 2, 1) := by decide +kernel
theorem dX1_isUnlike_1 : decode cX1_isUnlike 1 = .ok (.iload_n 3, 1) := by decide +kernel
theorem dX1_isUnlike_2 : decode cX1_isUnlike 2 = .ok (.invokestatic 29, 3) := by decide +kernel
theorem dX1_isUnlike_5 : decode cX1_isUnlike 5 = .ok (.istore 5, 2) := by decide +kernel
theorem dX1_isUnlike_7 : decode cX1_isUnlike 7 = .ok (.iload_n 1, 1) := by decide +kernel
theorem dX1_isUnlike_8 : decode cX1_isUnlike 8 = .ok (.invokestatic 25, 3) := by decide +kernel
theorem dX1_isUnlike_11 : decode cX1_isUnlike 11 = .ok (.ifCond .eq 12, 3) := by decide +kernel
theorem dX1_isUnlike_14 : decode cX1_isUnlike 14 = .ok (.aload_n 0, 1) := by decide +kernel
theorem dX1_isUnlike_15 : decode cX1_isUnlike 15 = .ok (.getfield 9, 3) := by decide +kernel
theorem dX1_isUnlike_18 : decode cX1_isUnlike 18 = .ok (.iload_n 1, 1) := by decide +kernel
theorem dX1_isUnlike_19 : decode cX1_isUnlike 19 = .ok (.iaload, 1) := by decide +kernel
theorem dX1_isUnlike_20 : decode cX1_isUnlike 20 = .ok (.goto 4, 3) := by decide +kernel
theorem dX1_isUnlike_23 : decode cX1_isUnlike 23 = .ok (.iconst 0, 1) := by decide +kernel
theorem dX1_isUnlike_24 : decode cX1_isUnlike 24 = .ok (.istore 6, 2) := by decide +kernel
theorem dX1_isUnlike_26 : decode cX1_isUnlike 26 = .ok (.iload_n 1, 1) := by decide +kernel
theorem dX1_isUnlike_27 : decode cX1_isUnlike 27 = .ok (.aload_n 0, 1) := by decide +kernel
theorem dX1_isUnlike_28 : decode cX1_isUnlike 28 = .ok (.getfield 22, 3) := by decide +kernel
theorem dX1_isUnlike_31 : decode cX1_isUnlike 31 = .ok (.if_icmp .ne 17, 3) := by decide +kernel
theorem dX1_isUnlike_34 : decode cX1_isUnlike 34 = .ok (.aload_n 0, 1) := by decide +kernel
theorem dX1_isUnlike_35 : decode cX1_isUnlike 35 = .ok (.getfield 15, 3) := by decide +kernel
theorem dX1_isUnlike_38 : decode cX1_isUnlike 38 = .ok (.aload_n 0, 1) := by decide +kernel
theorem dX1_isUnlike_39 : decode cX1_isUnlike 39 = .ok (.getfield 19, 3) := by decide +kernel
theorem dX1_isUnlike_42 : decode cX1_isUnlike 42 = .ok (.invokestatic 29, 3) := by decide +kernel
theorem dX1_isUnlike_45 : decode cX1_isUnlike 45 = .ok (.goto 4, 3) := by decide +kernel
theorem dX1_isUnlike_48 : decode cX1_isUnlike 48 = .ok (.iconst 0, 1) := by decide +kernel
theorem dX1_isUnlike_49 : decode cX1_isUnlike 49 = .ok (.istore 7, 2) := by decide +kernel
theorem dX1_isUnlike_51 : decode cX1_isUnlike 51 = .ok (.iload 4, 2) := by decide +kernel
theorem dX1_isUnlike_53 : decode cX1_isUnlike 53 = .ok (.lookupswitch 60 #[(0, 27), (1, 46)], 27) := by decide +kernel
theorem dX1_isUnlike_80 : decode cX1_isUnlike 80 = .ok (.iload 5, 2) := by decide +kernel
theorem dX1_isUnlike_82 : decode cX1_isUnlike 82 = .ok (.iload 6, 2) := by decide +kernel
theorem dX1_isUnlike_84 : decode cX1_isUnlike 84 = .ok (.iload 7, 2) := by decide +kernel
theorem dX1_isUnlike_86 : decode cX1_isUnlike 86 = .ok (.ior, 1) := by decide +kernel
theorem dX1_isUnlike_87 : decode cX1_isUnlike 87 = .ok (.iconst (-1), 1) := by decide +kernel
theorem dX1_isUnlike_88 : decode cX1_isUnlike 88 = .ok (.ixor, 1) := by decide +kernel
theorem dX1_isUnlike_89 : decode cX1_isUnlike 89 = .ok (.iand, 1) := by decide +kernel
theorem dX1_isUnlike_90 : decode cX1_isUnlike 90 = .ok (.ifCond .ne 7, 3) := by decide +kernel
theorem dX1_isUnlike_93 : decode cX1_isUnlike 93 = .ok (.iconst 1, 1) := by decide +kernel
theorem dX1_isUnlike_94 : decode cX1_isUnlike 94 = .ok (.goto 4, 3) := by decide +kernel
theorem dX1_isUnlike_97 : decode cX1_isUnlike 97 = .ok (.iconst 0, 1) := by decide +kernel
theorem dX1_isUnlike_98 : decode cX1_isUnlike 98 = .ok (.ireturn, 1) := by decide +kernel
theorem dX1_isUnlike_99 : decode cX1_isUnlike 99 = .ok (.iload 5, 2) := by decide +kernel
theorem dX1_isUnlike_101 : decode cX1_isUnlike 101 = .ok (.iload 6, 2) := by decide +kernel
theorem dX1_isUnlike_103 : decode cX1_isUnlike 103 = .ok (.iand, 1) := by decide +kernel
theorem dX1_isUnlike_104 : decode cX1_isUnlike 104 = .ok (.ifCond .ne 7, 3) := by decide +kernel
theorem dX1_isUnlike_107 : decode cX1_isUnlike 107 = .ok (.iconst 1, 1) := by decide +kernel
theorem dX1_isUnlike_108 : decode cX1_isUnlike 108 = .ok (.goto 4, 3) := by decide +kernel
theorem dX1_isUnlike_111 : decode cX1_isUnlike 111 = .ok (.iconst 0, 1) := by decide +kernel
theorem dX1_isUnlike_112 : decode cX1_isUnlike 112 = .ok (.ireturn, 1) := by decide +kernel
theorem dX1_isUnlike_113 : decode cX1_isUnlike 113 = .ok (.iload 5, 2) := by decide +kernel
theorem dX1_isUnlike_115 : decode cX1_isUnlike 115 = .ok (.iload 7, 2) := by decide +kernel
theorem dX1_isUnlike_117 : decode cX1_isUnlike 117 = .ok (.iand, 1) := by decide +kernel
theorem dX1_isUnlike_118 : decode cX1_isUnlike 118 = .ok (.ifCond .ne 7, 3) := by decide +kernel
theorem dX1_isUnlike_121 : decode cX1_isUnlike 121 = .ok (.iconst 1, 1) := by decide +kernel
theorem dX1_isUnlike_122 : decode cX1_isUnlike 122 = .ok (.goto 4, 3) := by decide +kernel
theorem dX1_isUnlike_125 : decode cX1_isUnlike 125 = .ok (.iconst 0, 1) := by decide +kernel
theorem dX1_isUnlike_126 : decode cX1_isUnlike 126 = .ok (.ireturn, 1) := by decide +kernel
theorem dX1_edge_0 : decode cX1_edge 0 = .ok (.iload_n 1, 1) := by decide +kernel
theorem dX1_edge_1 : decode cX1_edge 1 = .ok (.tableswitch 49 0 5 #[39, 44, 49, 49, 39, 44], 39) := by decide +kernel
theorem dX1_edge_40 : decode cX1_edge 40 = .ok (.aload_n 0, 1) := by decide +kernel
theorem dX1_edge_41 : decode cX1_edge 41 = .ok (.getfield 15, 3) := by decide +kernel
theorem dX1_edge_44 : decode cX1_edge 44 = .ok (.ireturn, 1) := by decide +kernel
theorem dX1_edge_45 : decode cX1_edge 45 = .ok (.aload_n 0, 1) := by decide +kernel
theorem dX1_edge_46 : decode cX1_edge 46 = .ok (.getfield 19, 3) := by decide +kernel
theorem dX1_edge_49 : decode cX1_edge 49 = .ok (.ireturn, 1) := by decide +kernel
theorem dX1_edge_50 : decode cX1_edge 50 = .ok (.aload_n 0, 1) := by decide +kernel
theorem dX1_edge_51 : decode cX1_edge 51 = .ok (.getfield 22, 3) := by decide +kernel
theorem dX1_edge_54 : decode cX1_edge 54 = .ok (.ireturn, 1) := by decide +kernel
theorem dX2_init_0 : decode cX2_init 0 = .ok (.aload_n 0, 1) := by decide +kernel
theorem dX2_init_1 : decode cX2_init 1 = .ok (.invokespecial 3, 3) := by decide +kernel
theorem dX2_init_4 : decode cX2_init 4 = .ok (.aload_n 0, 1) := by decide +kernel
theorem dX2_init_5 : decode cX2_init 5 = .ok (.bipush 120, 2) := by decide +kernel
theorem dX2_init_7 : decode cX2_init 7 = .ok (.newarray .int, 2) := by decide +kernel
theorem dX2_init_9 : decode cX2_init 9 = .ok (.putfield 9, 3) := by decide +kernel
theorem dX2_init_12 : decode cX2_init 12 = .ok (.aload_n 0, 1) := by decide +kernel
theorem dX2_init_13 : decode cX2_init 13 = .ok (.bipush 120, 2) := by decide +kernel
theorem dX2_init_15 : decode cX2_init 15 = .ok (.newarray .int, 2) := by decide +kernel
theorem dX2_init_17 : decode cX2_init 17 = .ok (.putfield 15, 3) := by decide +kernel
theorem dX2_init_20 : decode cX2_init 20 = .ok (.aload_n 0, 1) := by decide +kernel
theorem dX2_init_21 : decode cX2_init 21 = .ok (.bipush 120, 2) := by decide +kernel
theorem dX2_init_23 : decode cX2_init 23 = .ok (.newarray .int, 2) := by decide +kernel
theorem dX2_init_25 : decode cX2_init 25 = .ok (.putfield 18, 3) := by decide +kernel
theorem dX2_init_28 : decode cX2_init 28 = .ok (.aload_n 0, 1) := by decide +kernel
theorem dX2_init_29 : decode cX2_init 29 = .ok (.bipush 120, 2) := by decide +kernel
theorem dX2_init_31 : decode cX2_init 31 = .ok (.newarray .int, 2) := by decide +kernel
theorem dX2_init_33 : decode cX2_init 33 = .ok (.putfield 21, 3) := by decide +kernel
theorem dX2_init_36 : decode cX2_init 36 = .ok (.aload_n 0, 1) := by decide +kernel
theorem dX2_init_37 : decode cX2_init 37 = .ok (.bipush 120, 2) := by decide +kernel
theorem dX2_init_39 : decode cX2_init 39 = .ok (.newarray .int, 2) := by decide +kernel
theorem dX2_init_41 : decode cX2_init 41 = .ok (.putfield 24, 3) := by decide +kernel
theorem dX2_init_44 : decode cX2_init 44 = .ok (.aload_n 0, 1) := by decide +kernel
theorem dX2_init_45 : decode cX2_init 45 = .ok (.bipush 9, 2) := by decide +kernel
theorem dX2_init_47 : decode cX2_init 47 = .ok (.newarray .int, 2) := by decide +kernel
theorem dX2_init_49 : decode cX2_init 49 = .ok (.putfield 27, 3) := by decide +kernel
theorem dX2_init_52 : decode cX2_init 52 = .ok (.aload_n 0, 1) := by decide +kernel
theorem dX2_init_53 : decode cX2_init 53 = .ok (.bipush 120, 2) := by decide +kernel
theorem dX2_init_55 : decode cX2_init 55 = .ok (.newarray .int, 2) := by decide +kernel
theorem dX2_init_57 : decode cX2_init 57 = .ok (.putfield 30, 3) := by decide +kernel
theorem dX2_init_60 : decode cX2_init 60 = .ok (.aload_n 0, 1) := by decide +kernel
theorem dX2_init_61 : decode cX2_init 61 = .ok (.bipush 120, 2) := by decide +kernel
theorem dX2_init_63 : decode cX2_init 63 = .ok (.newarray .int, 2) := by decide +kernel
theorem dX2_init_65 : decode cX2_init 65 = .ok (.putfield 33, 3) := by decide +kernel
theorem dX2_init_68 : decode cX2_init 68 = .ok (.return_, 1) := by decide +kernel
theorem dX2_comes_0 : decode cX2_comes 0 = .ok (.iload_n 1, 1) := by decide +kernel
theorem dX2_comes_1 : decode cX2_comes 1 = .ok (.ifCond .lt 9, 3) := by decide +kernel
theorem dX2_comes_4 : decode cX2_comes 4 = .ok (.iload_n 1, 1) := by decide +kernel
theorem dX2_comes_5 : decode cX2_comes 5 = .ok (.bipush 120, 2) := by decide +kernel
theorem dX2_comes_7 : decode cX2_comes 7 = .ok (.if_icmp .lt 4, 3) := by decide +kernel
theorem dX2_comes_10 : decode cX2_comes 10 = .ok (.return_, 1) := by decide +kernel
theorem dX2_comes_11 : decode cX2_comes 11 = .ok (.aload_n 0, 1) := by decide +kernel
theorem dX2_comes_12 : decode cX2_comes 12 = .ok (.getfield 9, 3) := by decide +kernel
theorem dX2_comes_15 : decode cX2_comes 15 = .ok (.iload_n 1, 1) := by decide +kernel
theorem dX2_comes_16 : decode cX2_comes 16 = .ok (.iload_n 2, 1) := by decide +kernel
theorem dX2_comes_17 : decode cX2_comes 17 = .ok (.iastore, 1) := by decide +kernel
theorem dX2_comes_18 : decode cX2_comes 18 = .ok (.aload_n 0, 1) := by decide +kernel
theorem dX2_comes_19 : decode cX2_comes 19 = .ok (.getfield 15, 3) := by decide +kernel
theorem dX2_comes_22 : decode cX2_comes 22 = .ok (.iload_n 1, 1) := by decide +kernel
theorem dX2_comes_23 : decode cX2_comes 23 = .ok (.iload_n 3, 1) := by decide +kernel
theorem dX2_comes_24 : decode cX2_comes 24 = .ok (.iastore, 1) := by decide +kernel
theorem dX2_comes_25 : decode cX2_comes 25 = .ok (.aload_n 0, 1) := by decide +kernel
theorem dX2_comes_26 : decode cX2_comes 26 = .ok (.getfield 18, 3) := by decide +kernel
theorem dX2_comes_29 : decode cX2_comes 29 = .ok (.iload_n 1, 1) := by decide +kernel
theorem dX2_comes_30 : decode cX2_comes 30 = .ok (.iload 4, 2) := by decide +kernel
theorem dX2_comes_32 : decode cX2_comes 32 = .ok (.iastore, 1) := by decide +kernel
theorem dX2_comes_33 : decode cX2_comes 33 = .ok (.aload_n 0, 1) := by decide +kernel
theorem dX2_comes_34 : decode cX2_comes 34 = .ok (.getfield 21, 3) := by decide +kernel
theorem dX2_comes_37 : decode cX2_comes 37 = .ok (.iload_n 1, 1) := by decide +kernel
theorem dX2_comes_38 : decode cX2_comes 38 = .ok (.iconst 1, 1) := by decide +kernel
theorem dX2_comes_39 : decode cX2_comes 39 = .ok (.iastore, 1) := by decide +kernel
theorem dX2_comes_40 : decode cX2_comes 40 = .ok (.aload_n 0, 1) := by decide +kernel
theorem dX2_comes_41 : decode cX2_comes 41 = .ok (.dup, 1) := by decide +kernel
theorem dX2_comes_42 : decode cX2_comes 42 = .ok (.getfield 36, 3) := by decide +kernel
theorem dX2_comes_45 : decode cX2_comes 45 = .ok (.iconst 1, 1) := by decide +kernel
theorem dX2_comes_46 : decode cX2_comes 46 = .ok (.iadd, 1) := by decide +kernel
theorem dX2_comes_47 : decode cX2_comes 47 = .ok (.putfield 36, 3) := by decide +kernel
theorem dX2_comes_50 : decode cX2_comes 50 = .ok (.return_, 1) := by decide +kernel
theorem dX2_ofMan_0 : decode cX2_ofMan 0 = .ok (.iload_n 1, 1) := by decide +kernel
theorem dX2_ofMan_1 : decode cX2_ofMan 1 = .ok (.ifCond .lt 9, 3) := by decide +kernel
theorem dX2_ofMan_4 : decode cX2_ofMan 4 = .ok (.iload_n 1, 1) := by decide +kernel
theorem dX2_ofMan_5 : decode cX2_ofMan 5 = .ok (.bipush 120, 2) := by decide +kernel
theorem dX2_ofMan_7 : decode cX2_ofMan 7 = .ok (.if_icmp .lt 6, 3) := by decide +kernel
theorem dX2_ofMan_10 : decode cX2_ofMan 10 = .ok (.ldc 40, 2) := by decide +kernel
theorem dX2_ofMan_12 : decode cX2_ofMan 12 = .ok (.ireturn, 1) := by decide +kernel
theorem dX2_ofMan_13 : decode cX2_ofMan 13 = .ok (.iload_n 2, 1) := by decide +kernel
theorem dX2_ofMan_14 : decode cX2_ofMan 14 = .ok (.tableswitch 58 1 4 #[30, 37, 44, 51], 30) := by decide +kernel
theorem dX2_ofMan_44 : decode cX2_ofMan 44 = .ok (.aload_n 0, 1) := by decide +kernel
theorem dX2_ofMan_45 : decode cX2_ofMan 45 = .ok (.getfield 9, 3) := by decide +kernel
theorem dX2_ofMan_48 : decode cX2_ofMan 48 = .ok (.iload_n 1, 1) := by decide +kernel
theorem dX2_ofMan_49 : decode cX2_ofMan 49 = .ok (.iaload, 1) := by decide +kernel
theorem dX2_ofMan_50 : decode cX2_ofMan 50 = .ok (.ireturn, 1) := by decide +kernel
theorem dX2_ofMan_51 : decode cX2_ofMan 51 = .ok (.aload_n 0, 1) := by decide +kernel
theorem dX2_ofMan_52 : decode cX2_ofMan 52 = .ok (.getfield 15, 3) := by decide +kernel
theorem dX2_ofMan_55 : decode cX2_ofMan 55 = .ok (.iload_n 1, 1) := by decide +kernel
theorem dX2_ofMan_56 : decode cX2_ofMan 56 = .ok (.iaload, 1) := by decide +kernel
theorem dX2_ofMan_57 : decode cX2_ofMan 57 = .ok (.ireturn, 1) := by decide +kernel
theorem dX2_ofMan_58 : decode cX2_ofMan 58 = .ok (.aload_n 0, 1) := by decide +kernel
theorem dX2_ofMan_59 : decode cX2_ofMan 59 = .ok (.getfield 18, 3) := by decide +kernel
theorem dX2_ofMan_62 : decode cX2_ofMan 62 = .ok (.iload_n 1, 1) := by decide +kernel
theorem dX2_ofMan_63 : decode cX2_ofMan 63 = .ok (.iaload, 1) := by decide +kernel
theorem dX2_ofMan_64 : decode cX2_ofMan 64 = .ok (.ireturn, 1) := by decide +kernel
theorem dX2_ofMan_65 : decode cX2_ofMan 65 = .ok (.aload_n 0, 1) := by decide +kernel
theorem dX2_ofMan_66 : decode cX2_ofMan 66 = .ok (.getfield 21, 3) := by decide +kernel
theorem dX2_ofMan_69 : decode cX2_ofMan 69 = .ok (.iload_n 1, 1) := by decide +kernel
theorem dX2_ofMan_70 : decode cX2_ofMan 70 = .ok (.iaload, 1) := by decide +kernel
theorem dX2_ofMan_71 : decode cX2_ofMan 71 = .ok (.ireturn, 1) := by decide +kernel
theorem dX2_ofMan_72 : decode cX2_ofMan 72 = .ok (.ldc 40, 2) := by decide +kernel
theorem dX2_ofMan_74 : decode cX2_ofMan 74 = .ok (.ireturn, 1) := by decide +kernel
theorem dX2_afterDay_0 : decode cX2_afterDay 0 = .ok (.iload_n 0, 1) := by decide +kernel
theorem dX2_afterDay_1 : decode cX2_afterDay 1 = .ok (.bipush 6, 2) := by decide +kernel
theorem dX2_afterDay_3 : decode cX2_afterDay 3 = .ok (.isub, 1) := by decide +kernel
theorem dX2_afterDay_4 : decode cX2_afterDay 4 = .ok (.iconst 2, 1) := by decide +kernel
theorem dX2_afterDay_5 : decode cX2_afterDay 5 = .ok (.iload_n 1, 1) := by decide +kernel
theorem dX2_afterDay_6 : decode cX2_afterDay 6 = .ok (.imul, 1) := by decide +kernel
theorem dX2_afterDay_7 : decode cX2_afterDay 7 = .ok (.iadd, 1) := by decide +kernel
theorem dX2_afterDay_8 : decode cX2_afterDay 8 = .ok (.iconst 0, 1) := by decide +kernel
theorem dX2_afterDay_9 : decode cX2_afterDay 9 = .ok (.sipush 999, 3) := by decide +kernel
theorem dX2_afterDay_12 : decode cX2_afterDay 12 = .ok (.invokestatic 41, 3) := by decide +kernel
theorem dX2_afterDay_15 : decode cX2_afterDay 15 = .ok (.ireturn, 1) := by decide +kernel
theorem dX2_daysKept_0 : decode cX2_daysKept 0 = .ok (.iconst 0, 1) := by decide +kernel
theorem dX2_daysKept_1 : decode cX2_daysKept 1 = .ok (.istore 4, 2) := by decide +kernel
theorem dX2_daysKept_3 : decode cX2_daysKept 3 = .ok (.iconst 0, 1) := by decide +kernel
theorem dX2_daysKept_4 : decode cX2_daysKept 4 = .ok (.istore 5, 2) := by decide +kernel
theorem dX2_daysKept_6 : decode cX2_daysKept 6 = .ok (.iload 5, 2) := by decide +kernel
theorem dX2_daysKept_8 : decode cX2_daysKept 8 = .ok (.bipush 120, 2) := by decide +kernel
theorem dX2_daysKept_10 : decode cX2_daysKept 10 = .ok (.if_icmp .ge 50, 3) := by decide +kernel
theorem dX2_daysKept_13 : decode cX2_daysKept 13 = .ok (.aload_n 0, 1) := by decide +kernel
theorem dX2_daysKept_14 : decode cX2_daysKept 14 = .ok (.getfield 21, 3) := by decide +kernel
theorem dX2_daysKept_17 : decode cX2_daysKept 17 = .ok (.iload 5, 2) := by decide +kernel
theorem dX2_daysKept_19 : decode cX2_daysKept 19 = .ok (.iaload, 1) := by decide +kernel
theorem dX2_daysKept_20 : decode cX2_daysKept 20 = .ok (.iconst 1, 1) := by decide +kernel
theorem dX2_daysKept_21 : decode cX2_daysKept 21 = .ok (.if_icmp .ne 33, 3) := by decide +kernel
theorem dX2_daysKept_24 : decode cX2_daysKept 24 = .ok (.aload_n 0, 1) := by decide +kernel
theorem dX2_daysKept_25 : decode cX2_daysKept 25 = .ok (.getfield 9, 3) := by decide +kernel
theorem dX2_daysKept_28 : decode cX2_daysKept 28 = .ok (.iload 5, 2) := by decide +kernel
theorem dX2_daysKept_30 : decode cX2_daysKept 30 = .ok (.iaload, 1) := by decide +kernel
theorem dX2_daysKept_31 : decode cX2_daysKept 31 = .ok (.iload_n 1, 1) := by decide +kernel
theorem dX2_daysKept_32 : decode cX2_daysKept 32 = .ok (.if_icmp .gt 5, 3) := by decide +kernel
theorem dX2_daysKept_35 : decode cX2_daysKept 35 = .ok (.iconst 0, 1) := by decide +kernel
theorem dX2_daysKept_36 : decode cX2_daysKept 36 = .ok (.ireturn, 1) := by decide +kernel
theorem dX2_daysKept_37 : decode cX2_daysKept 37 = .ok (.aload_n 0, 1) := by decide +kernel
theorem dX2_daysKept_38 : decode cX2_daysKept 38 = .ok (.getfield 24, 3) := by decide +kernel
theorem dX2_daysKept_41 : decode cX2_daysKept 41 = .ok (.iload 4, 2) := by decide +kernel
theorem dX2_daysKept_43 : decode cX2_daysKept 43 = .ok (.aload_n 0, 1) := by decide +kernel
theorem dX2_daysKept_44 : decode cX2_daysKept 44 = .ok (.getfield 9, 3) := by decide +kernel
theorem dX2_daysKept_47 : decode cX2_daysKept 47 = .ok (.iload 5, 2) := by decide +kernel
theorem dX2_daysKept_49 : decode cX2_daysKept 49 = .ok (.iaload, 1) := by decide +kernel
theorem dX2_daysKept_50 : decode cX2_daysKept 50 = .ok (.iastore, 1) := by decide +kernel
theorem dX2_daysKept_51 : decode cX2_daysKept 51 = .ok (.iinc 4 1, 3) := by decide +kernel
theorem dX2_daysKept_54 : decode cX2_daysKept 54 = .ok (.iinc 5 1, 3) := by decide +kernel
theorem dX2_daysKept_57 : decode cX2_daysKept 57 = .ok (.goto (-51), 3) := by decide +kernel
theorem dX2_daysKept_60 : decode cX2_daysKept 60 = .ok (.iload_n 3, 1) := by decide +kernel
theorem dX2_daysKept_61 : decode cX2_daysKept 61 = .ok (.istore 5, 2) := by decide +kernel
theorem dX2_daysKept_63 : decode cX2_daysKept 63 = .ok (.iconst 0, 1) := by decide +kernel
theorem dX2_daysKept_64 : decode cX2_daysKept 64 = .ok (.istore 6, 2) := by decide +kernel
theorem dX2_daysKept_66 : decode cX2_daysKept 66 = .ok (.iload 6, 2) := by decide +kernel
theorem dX2_daysKept_68 : decode cX2_daysKept 68 = .ok (.bipush 60, 2) := by decide +kernel
theorem dX2_daysKept_70 : decode cX2_daysKept 70 = .ok (.if_icmp .ge 73, 3) := by decide +kernel
theorem dX2_daysKept_73 : decode cX2_daysKept 73 = .ok (.iconst 0, 1) := by decide +kernel
theorem dX2_daysKept_74 : decode cX2_daysKept 74 = .ok (.istore 7, 2) := by decide +kernel
theorem dX2_daysKept_76 : decode cX2_daysKept 76 = .ok (.iload 7, 2) := by decide +kernel
theorem dX2_daysKept_78 : decode cX2_daysKept 78 = .ok (.iload 4, 2) := by decide +kernel
theorem dX2_daysKept_80 : decode cX2_daysKept 80 = .ok (.if_icmp .ge 57, 3) := by decide +kernel
theorem dX2_daysKept_83 : decode cX2_daysKept 83 = .ok (.iload_n 2, 1) := by decide +kernel
theorem dX2_daysKept_84 : decode cX2_daysKept 84 = .ok (.iload 5, 2) := by decide +kernel
theorem dX2_daysKept_86 : decode cX2_daysKept 86 = .ok (.invokestatic 45, 3) := by decide +kernel
theorem dX2_daysKept_89 : decode cX2_daysKept 89 = .ok (.istore 8, 2) := by decide +kernel
theorem dX2_daysKept_91 : decode cX2_daysKept 91 = .ok (.iload 5, 2) := by decide +kernel
theorem dX2_daysKept_93 : decode cX2_daysKept 93 = .ok (.iload 8, 2) := by decide +kernel
theorem dX2_daysKept_95 : decode cX2_daysKept 95 = .ok (.isub, 1) := by decide +kernel
theorem dX2_daysKept_96 : decode cX2_daysKept 96 = .ok (.istore 5, 2) := by decide +kernel
theorem dX2_daysKept_98 : decode cX2_daysKept 98 = .ok (.aload_n 0, 1) := by decide +kernel
theorem dX2_daysKept_99 : decode cX2_daysKept 99 = .ok (.getfield 24, 3) := by decide +kernel
theorem dX2_daysKept_102 : decode cX2_daysKept 102 = .ok (.iload 7, 2) := by decide +kernel
theorem dX2_daysKept_104 : decode cX2_daysKept 104 = .ok (.aload_n 0, 1) := by decide +kernel
theorem dX2_daysKept_105 : decode cX2_daysKept 105 = .ok (.getfield 24, 3) := by decide +kernel
theorem dX2_daysKept_108 : decode cX2_daysKept 108 = .ok (.iload 7, 2) := by decide +kernel
theorem dX2_daysKept_110 : decode cX2_daysKept 110 = .ok (.iaload, 1) := by decide +kernel
theorem dX2_daysKept_111 : decode cX2_daysKept 111 = .ok (.iload 8, 2) := by decide +kernel
theorem dX2_daysKept_113 : decode cX2_daysKept 113 = .ok (.invokestatic 51, 3) := by decide +kernel
theorem dX2_daysKept_116 : decode cX2_daysKept 116 = .ok (.iastore, 1) := by decide +kernel
theorem dX2_daysKept_117 : decode cX2_daysKept 117 = .ok (.aload_n 0, 1) := by decide +kernel
theorem dX2_daysKept_118 : decode cX2_daysKept 118 = .ok (.getfield 24, 3) := by decide +kernel
theorem dX2_daysKept_121 : decode cX2_daysKept 121 = .ok (.iload 7, 2) := by decide +kernel
theorem dX2_daysKept_123 : decode cX2_daysKept 123 = .ok (.iaload, 1) := by decide +kernel
theorem dX2_daysKept_124 : decode cX2_daysKept 124 = .ok (.iload_n 1, 1) := by decide +kernel
theorem dX2_daysKept_125 : decode cX2_daysKept 125 = .ok (.if_icmp .gt 6, 3) := by decide +kernel
theorem dX2_daysKept_128 : decode cX2_daysKept 128 = .ok (.iload 6, 2) := by decide +kernel
theorem dX2_daysKept_130 : decode cX2_daysKept 130 = .ok (.ireturn, 1) := by decide +kernel
theorem dX2_daysKept_131 : decode cX2_daysKept 131 = .ok (.iinc 7 1, 3) := by decide +kernel
theorem dX2_daysKept_134 : decode cX2_daysKept 134 = .ok (.goto (-58), 3) := by decide +kernel
theorem dX2_daysKept_137 : decode cX2_daysKept 137 = .ok (.iinc 6 1, 3) := by decide +kernel
theorem dX2_daysKept_140 : decode cX2_daysKept 140 = .ok (.goto (-74), 3) := by decide +kernel
theorem dX2_daysKept_143 : decode cX2_daysKept 143 = .ok (.bipush 60, 2) := by decide +kernel
theorem dX2_daysKept_145 : decode cX2_daysKept 145 = .ok (.ireturn, 1) := by decide +kernel
theorem dX2_watchesMade_0 : decode cX2_watchesMade 0 = .ok (.aload_n 0, 1) := by decide +kernel
theorem dX2_watchesMade_1 : decode cX2_watchesMade 1 = .ok (.iload_n 1, 1) := by decide +kernel
theorem dX2_watchesMade_2 : decode cX2_watchesMade 2 = .ok (.putfield 54, 3) := by decide +kernel
theorem dX2_watchesMade_5 : decode cX2_watchesMade 5 = .ok (.aload_n 0, 1) := by decide +kernel
theorem dX2_watchesMade_6 : decode cX2_watchesMade 6 = .ok (.getfield 27, 3) := by decide +kernel
theorem dX2_watchesMade_9 : decode cX2_watchesMade 9 = .ok (.bipush (-2), 2) := by decide +kernel
theorem dX2_watchesMade_11 : decode cX2_watchesMade 11 = .ok (.invokestatic 57, 3) := by decide +kernel
theorem dX2_watchesMade_14 : decode cX2_watchesMade 14 = .ok (.iconst 0, 1) := by decide +kernel
theorem dX2_watchesMade_15 : decode cX2_watchesMade 15 = .ok (.istore_n 3, 1) := by decide +kernel
theorem dX2_watchesMade_16 : decode cX2_watchesMade 16 = .ok (.iconst 0, 1) := by decide +kernel
theorem dX2_watchesMade_17 : decode cX2_watchesMade 17 = .ok (.istore 4, 2) := by decide +kernel
theorem dX2_watchesMade_19 : decode cX2_watchesMade 19 = .ok (.iconst 0, 1) := by decide +kernel
theorem dX2_watchesMade_20 : decode cX2_watchesMade 20 = .ok (.istore 5, 2) := by decide +kernel
theorem dX2_watchesMade_22 : decode cX2_watchesMade 22 = .ok (.iload 5, 2) := by decide +kernel
theorem dX2_watchesMade_24 : decode cX2_watchesMade 24 = .ok (.bipush 120, 2) := by decide +kernel
theorem dX2_watchesMade_26 : decode cX2_watchesMade 26 = .ok (.if_icmp .ge 60, 3) := by decide +kernel
theorem dX2_watchesMade_29 : decode cX2_watchesMade 29 = .ok (.iload_n 3, 1) := by decide +kernel
theorem dX2_watchesMade_30 : decode cX2_watchesMade 30 = .ok (.bipush 9, 2) := by decide +kernel
theorem dX2_watchesMade_32 : decode cX2_watchesMade 32 = .ok (.if_icmp .ge 54, 3) := by decide +kernel
theorem dX2_watchesMade_35 : decode cX2_watchesMade 35 = .ok (.iload 4, 2) := by decide +kernel
theorem dX2_watchesMade_37 : decode cX2_watchesMade 37 = .ok (.iconst 3, 1) := by decide +kernel
theorem dX2_watchesMade_38 : decode cX2_watchesMade 38 = .ok (.iload_n 1, 1) := by decide +kernel
theorem dX2_watchesMade_39 : decode cX2_watchesMade 39 = .ok (.imul, 1) := by decide +kernel
theorem dX2_watchesMade_40 : decode cX2_watchesMade 40 = .ok (.if_icmp .ge 46, 3) := by decide +kernel
theorem dX2_watchesMade_43 : decode cX2_watchesMade 43 = .ok (.aload_n 0, 1) := by decide +kernel
theorem dX2_watchesMade_44 : decode cX2_watchesMade 44 = .ok (.getfield 21, 3) := by decide +kernel
theorem dX2_watchesMade_47 : decode cX2_watchesMade 47 = .ok (.iload 5, 2) := by decide +kernel
theorem dX2_watchesMade_49 : decode cX2_watchesMade 49 = .ok (.iaload, 1) := by decide +kernel
theorem dX2_watchesMade_50 : decode cX2_watchesMade 50 = .ok (.iconst 1, 1) := by decide +kernel
theorem dX2_watchesMade_51 : decode cX2_watchesMade 51 = .ok (.if_icmp .ne 29, 3) := by decide +kernel
theorem dX2_watchesMade_54 : decode cX2_watchesMade 54 = .ok (.iinc 3 1, 3) := by decide +kernel
theorem dX2_watchesMade_57 : decode cX2_watchesMade 57 = .ok (.aload_n 0, 1) := by decide +kernel
theorem dX2_watchesMade_58 : decode cX2_watchesMade 58 = .ok (.getfield 18, 3) := by decide +kernel
theorem dX2_watchesMade_61 : decode cX2_watchesMade 61 = .ok (.iload 5, 2) := by decide +kernel
theorem dX2_watchesMade_63 : decode cX2_watchesMade 63 = .ok (.iaload, 1) := by decide +kernel
theorem dX2_watchesMade_64 : decode cX2_watchesMade 64 = .ok (.iload_n 2, 1) := by decide +kernel
theorem dX2_watchesMade_65 : decode cX2_watchesMade 65 = .ok (.if_icmp .gt 15, 3) := by decide +kernel
theorem dX2_watchesMade_68 : decode cX2_watchesMade 68 = .ok (.aload_n 0, 1) := by decide +kernel
theorem dX2_watchesMade_69 : decode cX2_watchesMade 69 = .ok (.getfield 27, 3) := by decide +kernel
theorem dX2_watchesMade_72 : decode cX2_watchesMade 72 = .ok (.iload 4, 2) := by decide +kernel
theorem dX2_watchesMade_74 : decode cX2_watchesMade 74 = .ok (.iload 5, 2) := by decide +kernel
theorem dX2_watchesMade_76 : decode cX2_watchesMade 76 = .ok (.iastore, 1) := by decide +kernel
theorem dX2_watchesMade_77 : decode cX2_watchesMade 77 = .ok (.iinc 4 1, 3) := by decide +kernel
theorem dX2_watchesMade_80 : decode cX2_watchesMade 80 = .ok (.iinc 5 1, 3) := by decide +kernel
theorem dX2_watchesMade_83 : decode cX2_watchesMade 83 = .ok (.goto (-61), 3) := by decide +kernel
theorem dX2_watchesMade_86 : decode cX2_watchesMade 86 = .ok (.iload 4, 2) := by decide +kernel
theorem dX2_watchesMade_88 : decode cX2_watchesMade 88 = .ok (.ireturn, 1) := by decide +kernel
theorem dX2_liftBegins_0 : decode cX2_liftBegins 0 = .ok (.aload_n 0, 1) := by decide +kernel
theorem dX2_liftBegins_1 : decode cX2_liftBegins 1 = .ok (.iconst 0, 1) := by decide +kernel
theorem dX2_liftBegins_2 : decode cX2_liftBegins 2 = .ok (.putfield 63, 3) := by decide +kernel
theorem dX2_liftBegins_5 : decode cX2_liftBegins 5 = .ok (.aload_n 0, 1) := by decide +kernel
theorem dX2_liftBegins_6 : decode cX2_liftBegins 6 = .ok (.iload_n 1, 1) := by decide +kernel
theorem dX2_liftBegins_7 : decode cX2_liftBegins 7 = .ok (.putfield 66, 3) := by decide +kernel
theorem dX2_liftBegins_10 : decode cX2_liftBegins 10 = .ok (.aload_n 0, 1) := by decide +kernel
theorem dX2_liftBegins_11 : decode cX2_liftBegins 11 = .ok (.iload_n 2, 1) := by decide +kernel
theorem dX2_liftBegins_12 : decode cX2_liftBegins 12 = .ok (.putfield 69, 3) := by decide +kernel
theorem dX2_liftBegins_15 : decode cX2_liftBegins 15 = .ok (.return_, 1) := by decide +kernel
theorem dX2_liftTakes_0 : decode cX2_liftTakes 0 = .ok (.aload_n 0, 1) := by decide +kernel
theorem dX2_liftTakes_1 : decode cX2_liftTakes 1 = .ok (.getfield 63, 3) := by decide +kernel
theorem dX2_liftTakes_4 : decode cX2_liftTakes 4 = .ok (.bipush 120, 2) := by decide +kernel
theorem dX2_liftTakes_6 : decode cX2_liftTakes 6 = .ok (.if_icmp .lt 4, 3) := by decide +kernel
theorem dX2_liftTakes_9 : decode cX2_liftTakes 9 = .ok (.return_, 1) := by decide +kernel
theorem dX2_liftTakes_10 : decode cX2_liftTakes 10 = .ok (.aload_n 0, 1) := by decide +kernel
theorem dX2_liftTakes_11 : decode cX2_liftTakes 11 = .ok (.getfield 63, 3) := by decide +kernel
theorem dX2_liftTakes_14 : decode cX2_liftTakes 14 = .ok (.istore_n 3, 1) := by decide +kernel
theorem dX2_liftTakes_15 : decode cX2_liftTakes 15 = .ok (.iload_n 3, 1) := by decide +kernel
theorem dX2_liftTakes_16 : decode cX2_liftTakes 16 = .ok (.ifCond .le 49, 3) := by decide +kernel
theorem dX2_liftTakes_19 : decode cX2_liftTakes 19 = .ok (.aload_n 0, 1) := by decide +kernel
theorem dX2_liftTakes_20 : decode cX2_liftTakes 20 = .ok (.getfield 33, 3) := by decide +kernel
theorem dX2_liftTakes_23 : decode cX2_liftTakes 23 = .ok (.iload_n 3, 1) := by decide +kernel
theorem dX2_liftTakes_24 : decode cX2_liftTakes 24 = .ok (.iconst 1, 1) := by decide +kernel
theorem dX2_liftTakes_25 : decode cX2_liftTakes 25 = .ok (.isub, 1) := by decide +kernel
theorem dX2_liftTakes_26 : decode cX2_liftTakes 26 = .ok (.iaload, 1) := by decide +kernel
theorem dX2_liftTakes_27 : decode cX2_liftTakes 27 = .ok (.iload_n 2, 1) := by decide +kernel
theorem dX2_liftTakes_28 : decode cX2_liftTakes 28 = .ok (.if_icmp .ge 37, 3) := by decide +kernel
theorem dX2_liftTakes_31 : decode cX2_liftTakes 31 = .ok (.aload_n 0, 1) := by decide +kernel
theorem dX2_liftTakes_32 : decode cX2_liftTakes 32 = .ok (.getfield 30, 3) := by decide +kernel
theorem dX2_liftTakes_35 : decode cX2_liftTakes 35 = .ok (.iload_n 3, 1) := by decide +kernel
theorem dX2_liftTakes_36 : decode cX2_liftTakes 36 = .ok (.aload_n 0, 1) := by decide +kernel
theorem dX2_liftTakes_37 : decode cX2_liftTakes 37 = .ok (.getfield 30, 3) := by decide +kernel
theorem dX2_liftTakes_40 : decode cX2_liftTakes 40 = .ok (.iload_n 3, 1) := by decide +kernel
theorem dX2_liftTakes_41 : decode cX2_liftTakes 41 = .ok (.iconst 1, 1) := by decide +kernel
theorem dX2_liftTakes_42 : decode cX2_liftTakes 42 = .ok (.isub, 1) := by decide +kernel
theorem dX2_liftTakes_43 : decode cX2_liftTakes 43 = .ok (.iaload, 1) := by decide +kernel
theorem dX2_liftTakes_44 : decode cX2_liftTakes 44 = .ok (.iastore, 1) := by decide +kernel
theorem dX2_liftTakes_45 : decode cX2_liftTakes 45 = .ok (.aload_n 0, 1) := by decide +kernel
theorem dX2_liftTakes_46 : decode cX2_liftTakes 46 = .ok (.getfield 33, 3) := by decide +kernel
theorem dX2_liftTakes_49 : decode cX2_liftTakes 49 = .ok (.iload_n 3, 1) := by decide +kernel
theorem dX2_liftTakes_50 : decode cX2_liftTakes 50 = .ok (.aload_n 0, 1) := by decide +kernel
theorem dX2_liftTakes_51 : decode cX2_liftTakes 51 = .ok (.getfield 33, 3) := by decide +kernel
theorem dX2_liftTakes_54 : decode cX2_liftTakes 54 = .ok (.iload_n 3, 1) := by decide +kernel
theorem dX2_liftTakes_55 : decode cX2_liftTakes 55 = .ok (.iconst 1, 1) := by decide +kernel
theorem dX2_liftTakes_56 : decode cX2_liftTakes 56 = .ok (.isub, 1) := by decide +kernel
theorem dX2_liftTakes_57 : decode cX2_liftTakes 57 = .ok (.iaload, 1) := by decide +kernel
theorem dX2_liftTakes_58 : decode cX2_liftTakes 58 = .ok (.iastore, 1) := by decide +kernel
theorem dX2_liftTakes_59 : decode cX2_liftTakes 59 = .ok (.iinc 3 (-1), 3) := by decide +kernel
theorem dX2_liftTakes_62 : decode cX2_liftTakes 62 = .ok (.goto (-47), 3) := by decide +kernel
theorem dX2_liftTakes_65 : decode cX2_liftTakes 65 = .ok (.aload_n 0, 1) := by decide +kernel
theorem dX2_liftTakes_66 : decode cX2_liftTakes 66 = .ok (.getfield 30, 3) := by decide +kernel
theorem dX2_liftTakes_69 : decode cX2_liftTakes 69 = .ok (.iload_n 3, 1) := by decide +kernel
theorem dX2_liftTakes_70 : decode cX2_liftTakes 70 = .ok (.iload_n 1, 1) := by decide +kernel
theorem dX2_liftTakes_71 : decode cX2_liftTakes 71 = .ok (.iastore, 1) := by decide +kernel
theorem dX2_liftTakes_72 : decode cX2_liftTakes 72 = .ok (.aload_n 0, 1) := by decide +kernel
theorem dX2_liftTakes_73 : decode cX2_liftTakes 73 = .ok (.getfield 33, 3) := by decide +kernel
theorem dX2_liftTakes_76 : decode cX2_liftTakes 76 = .ok (.iload_n 3, 1) := by decide +kernel
theorem dX2_liftTakes_77 : decode cX2_liftTakes 77 = .ok (.iload_n 2, 1) := by decide +kernel
theorem dX2_liftTakes_78 : decode cX2_liftTakes 78 = .ok (.iastore, 1) := by decide +kernel
theorem dX2_liftTakes_79 : decode cX2_liftTakes 79 = .ok (.aload_n 0, 1) := by decide +kernel
theorem dX2_liftTakes_80 : decode cX2_liftTakes 80 = .ok (.dup, 1) := by decide +kernel
theorem dX2_liftTakes_81 : decode cX2_liftTakes 81 = .ok (.getfield 63, 3) := by decide +kernel
theorem dX2_liftTakes_84 : decode cX2_liftTakes 84 = .ok (.iconst 1, 1) := by decide +kernel
theorem dX2_liftTakes_85 : decode cX2_liftTakes 85 = .ok (.iadd, 1) := by decide +kernel
theorem dX2_liftTakes_86 : decode cX2_liftTakes 86 = .ok (.putfield 63, 3) := by decide +kernel
theorem dX2_liftTakes_89 : decode cX2_liftTakes 89 = .ok (.return_, 1) := by decide +kernel
theorem dX2_upAt_0 : decode cX2_upAt 0 = .ok (.aload_n 0, 1) := by decide +kernel
theorem dX2_upAt_1 : decode cX2_upAt 1 = .ok (.getfield 66, 3) := by decide +kernel
theorem dX2_upAt_4 : decode cX2_upAt 4 = .ok (.iload_n 1, 1) := by decide +kernel
theorem dX2_upAt_5 : decode cX2_upAt 5 = .ok (.iconst 1, 1) := by decide +kernel
theorem dX2_upAt_6 : decode cX2_upAt 6 = .ok (.iadd, 1) := by decide +kernel
theorem dX2_upAt_7 : decode cX2_upAt 7 = .ok (.aload_n 0, 1) := by decide +kernel
theorem dX2_upAt_8 : decode cX2_upAt 8 = .ok (.getfield 69, 3) := by decide +kernel
theorem dX2_upAt_11 : decode cX2_upAt 11 = .ok (.imul, 1) := by decide +kernel
theorem dX2_upAt_12 : decode cX2_upAt 12 = .ok (.iadd, 1) := by decide +kernel
theorem dX2_upAt_13 : decode cX2_upAt 13 = .ok (.ireturn, 1) := by decide +kernel
theorem dX2_raisedWithin_0 : decode cX2_raisedWithin 0 = .ok (.iconst 0, 1) := by decide +kernel
theorem dX2_raisedWithin_1 : decode cX2_raisedWithin 1 = .ok (.istore_n 2, 1) := by decide +kernel
theorem dX2_raisedWithin_2 : decode cX2_raisedWithin 2 = .ok (.iconst 0, 1) := by decide +kernel
theorem dX2_raisedWithin_3 : decode cX2_raisedWithin 3 = .ok (.istore_n 3, 1) := by decide +kernel
theorem dX2_raisedWithin_4 : decode cX2_raisedWithin 4 = .ok (.iload_n 3, 1) := by decide +kernel
theorem dX2_raisedWithin_5 : decode cX2_raisedWithin 5 = .ok (.aload_n 0, 1) := by decide +kernel
theorem dX2_raisedWithin_6 : decode cX2_raisedWithin 6 = .ok (.getfield 63, 3) := by decide +kernel
theorem dX2_raisedWithin_9 : decode cX2_raisedWithin 9 = .ok (.if_icmp .ge 73, 3) := by decide +kernel
theorem dX2_raisedWithin_12 : decode cX2_raisedWithin 12 = .ok (.iload_n 3, 1) := by decide +kernel
theorem dX2_raisedWithin_13 : decode cX2_raisedWithin 13 = .ok (.iconst 1, 1) := by decide +kernel
theorem dX2_raisedWithin_14 : decode cX2_raisedWithin 14 = .ok (.iadd, 1) := by decide +kernel
theorem dX2_raisedWithin_15 : decode cX2_raisedWithin 15 = .ok (.aload_n 0, 1) := by decide +kernel
theorem dX2_raisedWithin_16 : decode cX2_raisedWithin 16 = .ok (.getfield 69, 3) := by decide +kernel
theorem dX2_raisedWithin_19 : decode cX2_raisedWithin 19 = .ok (.imul, 1) := by decide +kernel
theorem dX2_raisedWithin_20 : decode cX2_raisedWithin 20 = .ok (.iload_n 1, 1) := by decide +kernel
theorem dX2_raisedWithin_21 : decode cX2_raisedWithin 21 = .ok (.if_icmp .gt 61, 3) := by decide +kernel
theorem dX2_raisedWithin_24 : decode cX2_raisedWithin 24 = .ok (.aload_n 0, 1) := by decide +kernel
theorem dX2_raisedWithin_25 : decode cX2_raisedWithin 25 = .ok (.getfield 30, 3) := by decide +kernel
theorem dX2_raisedWithin_28 : decode cX2_raisedWithin 28 = .ok (.iload_n 3, 1) := by decide +kernel
theorem dX2_raisedWithin_29 : decode cX2_raisedWithin 29 = .ok (.iaload, 1) := by decide +kernel
theorem dX2_raisedWithin_30 : decode cX2_raisedWithin 30 = .ok (.istore 4, 2) := by decide +kernel
theorem dX2_raisedWithin_32 : decode cX2_raisedWithin 32 = .ok (.iload 4, 2) := by decide +kernel
theorem dX2_raisedWithin_34 : decode cX2_raisedWithin 34 = .ok (.ifCond .lt 42, 3) := by decide +kernel
theorem dX2_raisedWithin_37 : decode cX2_raisedWithin 37 = .ok (.iload 4, 2) := by decide +kernel
theorem dX2_raisedWithin_39 : decode cX2_raisedWithin 39 = .ok (.bipush 120, 2) := by decide +kernel
theorem dX2_raisedWithin_41 : decode cX2_raisedWithin 41 = .ok (.if_icmp .ge 35, 3) := by decide +kernel
theorem dX2_raisedWithin_44 : decode cX2_raisedWithin 44 = .ok (.aload_n 0, 1) := by decide +kernel
theorem dX2_raisedWithin_45 : decode cX2_raisedWithin 45 = .ok (.getfield 21, 3) := by decide +kernel
theorem dX2_raisedWithin_48 : decode cX2_raisedWithin 48 = .ok (.iload 4, 2) := by decide +kernel
theorem dX2_raisedWithin_50 : decode cX2_raisedWithin 50 = .ok (.iaload, 1) := by decide +kernel
theorem dX2_raisedWithin_51 : decode cX2_raisedWithin 51 = .ok (.iconst 1, 1) := by decide +kernel
theorem dX2_raisedWithin_52 : decode cX2_raisedWithin 52 = .ok (.if_icmp .ne 24, 3) := by decide +kernel
theorem dX2_raisedWithin_55 : decode cX2_raisedWithin 55 = .ok (.aload_n 0, 1) := by decide +kernel
theorem dX2_raisedWithin_56 : decode cX2_raisedWithin 56 = .ok (.getfield 21, 3) := by decide +kernel
theorem dX2_raisedWithin_59 : decode cX2_raisedWithin 59 = .ok (.iload 4, 2) := by decide +kernel
theorem dX2_raisedWithin_61 : decode cX2_raisedWithin 61 = .ok (.iconst 0, 1) := by decide +kernel
theorem dX2_raisedWithin_62 : decode cX2_raisedWithin 62 = .ok (.iastore, 1) := by decide +kernel
theorem dX2_raisedWithin_63 : decode cX2_raisedWithin 63 = .ok (.aload_n 0, 1) := by decide +kernel
theorem dX2_raisedWithin_64 : decode cX2_raisedWithin 64 = .ok (.dup, 1) := by decide +kernel
theorem dX2_raisedWithin_65 : decode cX2_raisedWithin 65 = .ok (.getfield 36, 3) := by decide +kernel
theorem dX2_raisedWithin_68 : decode cX2_raisedWithin 68 = .ok (.iconst 1, 1) := by decide +kernel
theorem dX2_raisedWithin_69 : decode cX2_raisedWithin 69 = .ok (.isub, 1) := by decide +kernel
theorem dX2_raisedWithin_70 : decode cX2_raisedWithin 70 = .ok (.putfield 36, 3) := by decide +kernel
theorem dX2_raisedWithin_73 : decode cX2_raisedWithin 73 = .ok (.iinc 2 1, 3) := by decide +kernel
theorem dX2_raisedWithin_76 : decode cX2_raisedWithin 76 = .ok (.iinc 3 1, 3) := by decide +kernel
theorem dX2_raisedWithin_79 : decode cX2_raisedWithin 79 = .ok (.goto (-75), 3) := by decide +kernel
theorem dX2_raisedWithin_82 : decode cX2_raisedWithin 82 = .ok (.iload_n 2, 1) := by decide +kernel
theorem dX2_raisedWithin_83 : decode cX2_raisedWithin 83 = .ok (.ireturn, 1) := by decide +kernel
theorem dX3_init_0 : decode cX3_init 0 = .ok (.aload_n 0, 1) := by decide +kernel
theorem dX3_init_1 : decode cX3_init 1 = .ok (.invokespecial 3, 3) := by decide +kernel
theorem dX3_init_4 : decode cX3_init 4 = .ok (.aload_n 0, 1) := by decide +kernel
theorem dX3_init_5 : decode cX3_init 5 = .ok (.bipush 61, 2) := by decide +kernel
theorem dX3_init_7 : decode cX3_init 7 = .ok (.newarray .int, 2) := by decide +kernel
theorem dX3_init_9 : decode cX3_init 9 = .ok (.putfield 9, 3) := by decide +kernel
theorem dX3_init_12 : decode cX3_init 12 = .ok (.aload_n 0, 1) := by decide +kernel
theorem dX3_init_13 : decode cX3_init 13 = .ok (.bipush 61, 2) := by decide +kernel
theorem dX3_init_15 : decode cX3_init 15 = .ok (.newarray .int, 2) := by decide +kernel
theorem dX3_init_17 : decode cX3_init 17 = .ok (.putfield 15, 3) := by decide +kernel
theorem dX3_init_20 : decode cX3_init 20 = .ok (.aload_n 0, 1) := by decide +kernel
theorem dX3_init_21 : decode cX3_init 21 = .ok (.bipush 61, 2) := by decide +kernel
theorem dX3_init_23 : decode cX3_init 23 = .ok (.newarray .int, 2) := by decide +kernel
theorem dX3_init_25 : decode cX3_init 25 = .ok (.putfield 18, 3) := by decide +kernel
theorem dX3_init_28 : decode cX3_init 28 = .ok (.aload_n 0, 1) := by decide +kernel
theorem dX3_init_29 : decode cX3_init 29 = .ok (.iload_n 1, 1) := by decide +kernel
theorem dX3_init_30 : decode cX3_init 30 = .ok (.putfield 21, 3) := by decide +kernel
theorem dX3_init_33 : decode cX3_init 33 = .ok (.aload_n 0, 1) := by decide +kernel
theorem dX3_init_34 : decode cX3_init 34 = .ok (.iload_n 2, 1) := by decide +kernel
theorem dX3_init_35 : decode cX3_init 35 = .ok (.putfield 25, 3) := by decide +kernel
theorem dX3_init_38 : decode cX3_init 38 = .ok (.aload_n 0, 1) := by decide +kernel
theorem dX3_init_39 : decode cX3_init 39 = .ok (.iload_n 1, 1) := by decide +kernel
theorem dX3_init_40 : decode cX3_init 40 = .ok (.putfield 28, 3) := by decide +kernel
theorem dX3_init_43 : decode cX3_init 43 = .ok (.aload_n 0, 1) := by decide +kernel
theorem dX3_init_44 : decode cX3_init 44 = .ok (.getfield 18, 3) := by decide +kernel
theorem dX3_init_47 : decode cX3_init 47 = .ok (.ldc 31, 2) := by decide +kernel
theorem dX3_init_49 : decode cX3_init 49 = .ok (.invokestatic 32, 3) := by decide +kernel
theorem dX3_init_52 : decode cX3_init 52 = .ok (.return_, 1) := by decide +kernel
theorem dX3_told_0 : decode cX3_told 0 = .ok (.iload_n 1, 1) := by decide +kernel
theorem dX3_told_1 : decode cX3_told 1 = .ok (.tableswitch 86 1 7 #[43, 48, 53, 58, 63, 76, 81], 43) := by decide +kernel
theorem dX3_told_44 : decode cX3_told 44 = .ok (.aload_n 0, 1) := by decide +kernel
theorem dX3_told_45 : decode cX3_told 45 = .ok (.getfield 21, 3) := by decide +kernel
theorem dX3_told_48 : decode cX3_told 48 = .ok (.ireturn, 1) := by decide +kernel
theorem dX3_told_49 : decode cX3_told 49 = .ok (.aload_n 0, 1) := by decide +kernel
theorem dX3_told_50 : decode cX3_told 50 = .ok (.getfield 25, 3) := by decide +kernel
theorem dX3_told_53 : decode cX3_told 53 = .ok (.ireturn, 1) := by decide +kernel
theorem dX3_told_54 : decode cX3_told 54 = .ok (.aload_n 0, 1) := by decide +kernel
theorem dX3_told_55 : decode cX3_told 55 = .ok (.getfield 38, 3) := by decide +kernel
theorem dX3_told_58 : decode cX3_told 58 = .ok (.ireturn, 1) := by decide +kernel
theorem dX3_told_59 : decode cX3_told 59 = .ok (.aload_n 0, 1) := by decide +kernel
theorem dX3_told_60 : decode cX3_told 60 = .ok (.getfield 28, 3) := by decide +kernel
theorem dX3_told_63 : decode cX3_told 63 = .ok (.ireturn, 1) := by decide +kernel
theorem dX3_told_64 : decode cX3_told 64 = .ok (.aload_n 0, 1) := by decide +kernel
theorem dX3_told_65 : decode cX3_told 65 = .ok (.getfield 41, 3) := by decide +kernel
theorem dX3_told_68 : decode cX3_told 68 = .ok (.ifCond .eq 7, 3) := by decide +kernel
theorem dX3_told_71 : decode cX3_told 71 = .ok (.iconst 1, 1) := by decide +kernel
theorem dX3_told_72 : decode cX3_told 72 = .ok (.goto 4, 3) := by decide +kernel
theorem dX3_told_75 : decode cX3_told 75 = .ok (.iconst 0, 1) := by decide +kernel
theorem dX3_told_76 : decode cX3_told 76 = .ok (.ireturn, 1) := by decide +kernel
theorem dX3_told_77 : decode cX3_told 77 = .ok (.aload_n 0, 1) := by decide +kernel
theorem dX3_told_78 : decode cX3_told 78 = .ok (.getfield 45, 3) := by decide +kernel
theorem dX3_told_81 : decode cX3_told 81 = .ok (.ireturn, 1) := by decide +kernel
theorem dX3_told_82 : decode cX3_told 82 = .ok (.aload_n 0, 1) := by decide +kernel
theorem dX3_told_83 : decode cX3_told 83 = .ok (.getfield 48, 3) := by decide +kernel
theorem dX3_told_86 : decode cX3_told 86 = .ok (.ireturn, 1) := by decide +kernel
theorem dX3_told_87 : decode cX3_told 87 = .ok (.ldc 31, 2) := by decide +kernel
theorem dX3_told_89 : decode cX3_told 89 = .ok (.ireturn, 1) := by decide +kernel
theorem dX3_logged_0 : decode cX3_logged 0 = .ok (.iconst 0, 1) := by decide +kernel
theorem dX3_logged_1 : decode cX3_logged 1 = .ok (.istore 5, 2) := by decide +kernel
theorem dX3_logged_3 : decode cX3_logged 3 = .ok (.iconst 0, 1) := by decide +kernel
theorem dX3_logged_4 : decode cX3_logged 4 = .ok (.istore 6, 2) := by decide +kernel
theorem dX3_logged_6 : decode cX3_logged 6 = .ok (.iload 6, 2) := by decide +kernel
theorem dX3_logged_8 : decode cX3_logged 8 = .ok (.iload 4, 2) := by decide +kernel
theorem dX3_logged_10 : decode cX3_logged 10 = .ok (.if_icmp .ge 86, 3) := by decide +kernel
theorem dX3_logged_13 : decode cX3_logged 13 = .ok (.iload_n 3, 1) := by decide +kernel
theorem dX3_logged_14 : decode cX3_logged 14 = .ok (.iload 6, 2) := by decide +kernel
theorem dX3_logged_16 : decode cX3_logged 16 = .ok (.iadd, 1) := by decide +kernel
theorem dX3_logged_17 : decode cX3_logged 17 = .ok (.bipush 60, 2) := by decide +kernel
theorem dX3_logged_19 : decode cX3_logged 19 = .ok (.if_icmp .gt 77, 3) := by decide +kernel
theorem dX3_logged_22 : decode cX3_logged 22 = .ok (.iload_n 3, 1) := by decide +kernel
theorem dX3_logged_23 : decode cX3_logged 23 = .ok (.iload 6, 2) := by decide +kernel
theorem dX3_logged_25 : decode cX3_logged 25 = .ok (.iadd, 1) := by decide +kernel
theorem dX3_logged_26 : decode cX3_logged 26 = .ok (.istore 7, 2) := by decide +kernel
theorem dX3_logged_28 : decode cX3_logged 28 = .ok (.aload_n 1, 1) := by decide +kernel
theorem dX3_logged_29 : decode cX3_logged 29 = .ok (.iload_n 2, 1) := by decide +kernel
theorem dX3_logged_30 : decode cX3_logged 30 = .ok (.iload 6, 2) := by decide +kernel
theorem dX3_logged_32 : decode cX3_logged 32 = .ok (.iadd, 1) := by decide +kernel
theorem dX3_logged_33 : decode cX3_logged 33 = .ok (.invokevirtual 51, 3) := by decide +kernel
theorem dX3_logged_36 : decode cX3_logged 36 = .ok (.ifCond .eq 12, 3) := by decide +kernel
theorem dX3_logged_39 : decode cX3_logged 39 = .ok (.aload_n 0, 1) := by decide +kernel
theorem dX3_logged_40 : decode cX3_logged 40 = .ok (.iload 7, 2) := by decide +kernel
theorem dX3_logged_42 : decode cX3_logged 42 = .ok (.invokevirtual 57, 3) := by decide +kernel
theorem dX3_logged_45 : decode cX3_logged 45 = .ok (.iload 5, 2) := by decide +kernel
theorem dX3_logged_47 : decode cX3_logged 47 = .ok (.ireturn, 1) := by decide +kernel
theorem dX3_logged_48 : decode cX3_logged 48 = .ok (.aload_n 1, 1) := by decide +kernel
theorem dX3_logged_49 : decode cX3_logged 49 = .ok (.getfield 61, 3) := by decide +kernel
theorem dX3_logged_52 : decode cX3_logged 52 = .ok (.iload_n 2, 1) := by decide +kernel
theorem dX3_logged_53 : decode cX3_logged 53 = .ok (.iload 6, 2) := by decide +kernel
theorem dX3_logged_55 : decode cX3_logged 55 = .ok (.iadd, 1) := by decide +kernel
theorem dX3_logged_56 : decode cX3_logged 56 = .ok (.laload, 1) := by decide +kernel
theorem dX3_logged_57 : decode cX3_logged 57 = .ok (.lstore 8, 2) := by decide +kernel
theorem dX3_logged_59 : decode cX3_logged 59 = .ok (.aload_n 0, 1) := by decide +kernel
theorem dX3_logged_60 : decode cX3_logged 60 = .ok (.getfield 18, 3) := by decide +kernel
theorem dX3_logged_63 : decode cX3_logged 63 = .ok (.iload 7, 2) := by decide +kernel
theorem dX3_logged_65 : decode cX3_logged 65 = .ok (.lload 8, 2) := by decide +kernel
theorem dX3_logged_67 : decode cX3_logged 67 = .ok (.ldc2_w 65, 3) := by decide +kernel
theorem dX3_logged_70 : decode cX3_logged 70 = .ok (.lcmp, 1) := by decide +kernel
theorem dX3_logged_71 : decode cX3_logged 71 = .ok (.ifCond .ne 12, 3) := by decide +kernel
theorem dX3_logged_74 : decode cX3_logged 74 = .ok (.aload_n 0, 1) := by decide +kernel
theorem dX3_logged_75 : decode cX3_logged 75 = .ok (.iload 7, 2) := by decide +kernel
theorem dX3_logged_77 : decode cX3_logged 77 = .ok (.invokevirtual 67, 3) := by decide +kernel
theorem dX3_logged_80 : decode cX3_logged 80 = .ok (.goto 6, 3) := by decide +kernel
theorem dX3_logged_83 : decode cX3_logged 83 = .ok (.lload 8, 2) := by decide +kernel
theorem dX3_logged_85 : decode cX3_logged 85 = .ok (.l2i, 1) := by decide +kernel
theorem dX3_logged_86 : decode cX3_logged 86 = .ok (.iastore, 1) := by decide +kernel
theorem dX3_logged_87 : decode cX3_logged 87 = .ok (.iinc 5 1, 3) := by decide +kernel
theorem dX3_logged_90 : decode cX3_logged 90 = .ok (.iinc 6 1, 3) := by decide +kernel
theorem dX3_logged_93 : decode cX3_logged 93 = .ok (.goto (-87), 3) := by decide +kernel
theorem dX3_logged_96 : decode cX3_logged 96 = .ok (.iload 5, 2) := by decide +kernel
theorem dX3_logged_98 : decode cX3_logged 98 = .ok (.ireturn, 1) := by decide +kernel
theorem dX3_lostFrom_0 : decode cX3_lostFrom 0 = .ok (.iconst 1, 1) := by decide +kernel
theorem dX3_lostFrom_1 : decode cX3_lostFrom 1 = .ok (.iload_n 1, 1) := by decide +kernel
theorem dX3_lostFrom_2 : decode cX3_lostFrom 2 = .ok (.invokestatic 70, 3) := by decide +kernel
theorem dX3_lostFrom_5 : decode cX3_lostFrom 5 = .ok (.istore_n 2, 1) := by decide +kernel
theorem dX3_lostFrom_6 : decode cX3_lostFrom 6 = .ok (.iload_n 2, 1) := by decide +kernel
theorem dX3_lostFrom_7 : decode cX3_lostFrom 7 = .ok (.bipush 60, 2) := by decide +kernel
theorem dX3_lostFrom_9 : decode cX3_lostFrom 9 = .ok (.if_icmp .gt 17, 3) := by decide +kernel
theorem dX3_lostFrom_12 : decode cX3_lostFrom 12 = .ok (.aload_n 0, 1) := by decide +kernel
theorem dX3_lostFrom_13 : decode cX3_lostFrom 13 = .ok (.getfield 18, 3) := by decide +kernel
theorem dX3_lostFrom_16 : decode cX3_lostFrom 16 = .ok (.iload_n 2, 1) := by decide +kernel
theorem dX3_lostFrom_17 : decode cX3_lostFrom 17 = .ok (.ldc 31, 2) := by decide +kernel
theorem dX3_lostFrom_19 : decode cX3_lostFrom 19 = .ok (.iastore, 1) := by decide +kernel
theorem dX3_lostFrom_20 : decode cX3_lostFrom 20 = .ok (.iinc 2 1, 3) := by decide +kernel
theorem dX3_lostFrom_23 : decode cX3_lostFrom 23 = .ok (.goto (-17), 3) := by decide +kernel
theorem dX3_lostFrom_26 : decode cX3_lostFrom 26 = .ok (.return_, 1) := by decide +kernel
theorem dX3_logAhead_0 : decode cX3_logAhead 0 = .ok (.iload_n 1, 1) := by decide +kernel
theorem dX3_logAhead_1 : decode cX3_logAhead 1 = .ok (.iconst 1, 1) := by decide +kernel
theorem dX3_logAhead_2 : decode cX3_logAhead 2 = .ok (.if_icmp .le 22, 3) := by decide +kernel
theorem dX3_logAhead_5 : decode cX3_logAhead 5 = .ok (.iload_n 1, 1) := by decide +kernel
theorem dX3_logAhead_6 : decode cX3_logAhead 6 = .ok (.bipush 60, 2) := by decide +kernel
theorem dX3_logAhead_8 : decode cX3_logAhead 8 = .ok (.if_icmp .gt 16, 3) := by decide +kernel
theorem dX3_logAhead_11 : decode cX3_logAhead 11 = .ok (.aload_n 0, 1) := by decide +kernel
theorem dX3_logAhead_12 : decode cX3_logAhead 12 = .ok (.getfield 18, 3) := by decide +kernel
theorem dX3_logAhead_15 : decode cX3_logAhead 15 = .ok (.iload_n 1, 1) := by decide +kernel
theorem dX3_logAhead_16 : decode cX3_logAhead 16 = .ok (.iconst 1, 1) := by decide +kernel
theorem dX3_logAhead_17 : decode cX3_logAhead 17 = .ok (.isub, 1) := by decide +kernel
theorem dX3_logAhead_18 : decode cX3_logAhead 18 = .ok (.iaload, 1) := by decide +kernel
theorem dX3_logAhead_19 : decode cX3_logAhead 19 = .ok (.ldc 31, 2) := by decide +kernel
theorem dX3_logAhead_21 : decode cX3_logAhead 21 = .ok (.if_icmp .ne 7, 3) := by decide +kernel
theorem dX3_logAhead_24 : decode cX3_logAhead 24 = .ok (.iconst 0, 1) := by decide +kernel
theorem dX3_logAhead_25 : decode cX3_logAhead 25 = .ok (.goto 11, 3) := by decide +kernel
theorem dX3_logAhead_28 : decode cX3_logAhead 28 = .ok (.aload_n 0, 1) := by decide +kernel
theorem dX3_logAhead_29 : decode cX3_logAhead 29 = .ok (.getfield 18, 3) := by decide +kernel
theorem dX3_logAhead_32 : decode cX3_logAhead 32 = .ok (.iload_n 1, 1) := by decide +kernel
theorem dX3_logAhead_33 : decode cX3_logAhead 33 = .ok (.iconst 1, 1) := by decide +kernel
theorem dX3_logAhead_34 : decode cX3_logAhead 34 = .ok (.isub, 1) := by decide +kernel
theorem dX3_logAhead_35 : decode cX3_logAhead 35 = .ok (.iaload, 1) := by decide +kernel
theorem dX3_logAhead_36 : decode cX3_logAhead 36 = .ok (.ireturn, 1) := by decide +kernel
theorem dX3_leastLean_0 : decode cX3_leastLean 0 = .ok (.iload_n 1, 1) := by decide +kernel
theorem dX3_leastLean_1 : decode cX3_leastLean 1 = .ok (.iconst 1, 1) := by decide +kernel
theorem dX3_leastLean_2 : decode cX3_leastLean 2 = .ok (.if_icmp .lt 20, 3) := by decide +kernel
theorem dX3_leastLean_5 : decode cX3_leastLean 5 = .ok (.iload_n 1, 1) := by decide +kernel
theorem dX3_leastLean_6 : decode cX3_leastLean 6 = .ok (.bipush 60, 2) := by decide +kernel
theorem dX3_leastLean_8 : decode cX3_leastLean 8 = .ok (.if_icmp .gt 14, 3) := by decide +kernel
theorem dX3_leastLean_11 : decode cX3_leastLean 11 = .ok (.aload_n 0, 1) := by decide +kernel
theorem dX3_leastLean_12 : decode cX3_leastLean 12 = .ok (.getfield 18, 3) := by decide +kernel
theorem dX3_leastLean_15 : decode cX3_leastLean 15 = .ok (.iload_n 1, 1) := by decide +kernel
theorem dX3_leastLean_16 : decode cX3_leastLean 16 = .ok (.iaload, 1) := by decide +kernel
theorem dX3_leastLean_17 : decode cX3_leastLean 17 = .ok (.ldc 31, 2) := by decide +kernel
theorem dX3_leastLean_19 : decode cX3_leastLean 19 = .ok (.if_icmp .ne 8, 3) := by decide +kernel
theorem dX3_leastLean_22 : decode cX3_leastLean 22 = .ok (.bipush (-8), 2) := by decide +kernel
theorem dX3_leastLean_24 : decode cX3_leastLean 24 = .ok (.goto 11, 3) := by decide +kernel
theorem dX3_leastLean_27 : decode cX3_leastLean 27 = .ok (.aload_n 0, 1) := by decide +kernel
theorem dX3_leastLean_28 : decode cX3_leastLean 28 = .ok (.getfield 18, 3) := by decide +kernel
theorem dX3_leastLean_31 : decode cX3_leastLean 31 = .ok (.iload_n 1, 1) := by decide +kernel
theorem dX3_leastLean_32 : decode cX3_leastLean 32 = .ok (.iaload, 1) := by decide +kernel
theorem dX3_leastLean_33 : decode cX3_leastLean 33 = .ok (.iload_n 2, 1) := by decide +kernel
theorem dX3_leastLean_34 : decode cX3_leastLean 34 = .ok (.isub, 1) := by decide +kernel
theorem dX3_leastLean_35 : decode cX3_leastLean 35 = .ok (.ireturn, 1) := by decide +kernel
theorem dX3_mostLean_0 : decode cX3_mostLean 0 = .ok (.iload_n 1, 1) := by decide +kernel
theorem dX3_mostLean_1 : decode cX3_mostLean 1 = .ok (.iconst 1, 1) := by decide +kernel
theorem dX3_mostLean_2 : decode cX3_mostLean 2 = .ok (.if_icmp .lt 20, 3) := by decide +kernel
theorem dX3_mostLean_5 : decode cX3_mostLean 5 = .ok (.iload_n 1, 1) := by decide +kernel
theorem dX3_mostLean_6 : decode cX3_mostLean 6 = .ok (.bipush 60, 2) := by decide +kernel
theorem dX3_mostLean_8 : decode cX3_mostLean 8 = .ok (.if_icmp .gt 14, 3) := by decide +kernel
theorem dX3_mostLean_11 : decode cX3_mostLean 11 = .ok (.aload_n 0, 1) := by decide +kernel
theorem dX3_mostLean_12 : decode cX3_mostLean 12 = .ok (.getfield 18, 3) := by decide +kernel
theorem dX3_mostLean_15 : decode cX3_mostLean 15 = .ok (.iload_n 1, 1) := by decide +kernel
theorem dX3_mostLean_16 : decode cX3_mostLean 16 = .ok (.iaload, 1) := by decide +kernel
theorem dX3_mostLean_17 : decode cX3_mostLean 17 = .ok (.ldc 31, 2) := by decide +kernel
theorem dX3_mostLean_19 : decode cX3_mostLean 19 = .ok (.if_icmp .ne 8, 3) := by decide +kernel
theorem dX3_mostLean_22 : decode cX3_mostLean 22 = .ok (.bipush 8, 2) := by decide +kernel
theorem dX3_mostLean_24 : decode cX3_mostLean 24 = .ok (.goto 11, 3) := by decide +kernel
theorem dX3_mostLean_27 : decode cX3_mostLean 27 = .ok (.aload_n 0, 1) := by decide +kernel
theorem dX3_mostLean_28 : decode cX3_mostLean 28 = .ok (.getfield 18, 3) := by decide +kernel
theorem dX3_mostLean_31 : decode cX3_mostLean 31 = .ok (.iload_n 1, 1) := by decide +kernel
theorem dX3_mostLean_32 : decode cX3_mostLean 32 = .ok (.iaload, 1) := by decide +kernel
theorem dX3_mostLean_33 : decode cX3_mostLean 33 = .ok (.iload_n 2, 1) := by decide +kernel
theorem dX3_mostLean_34 : decode cX3_mostLean 34 = .ok (.iadd, 1) := by decide +kernel
theorem dX3_mostLean_35 : decode cX3_mostLean 35 = .ok (.ireturn, 1) := by decide +kernel
theorem dX4_init_0 : decode cX4_init 0 = .ok (.aload_n 0, 1) := by decide +kernel
theorem dX4_init_1 : decode cX4_init 1 = .ok (.invokespecial 1, 3) := by decide +kernel
theorem dX4_init_4 : decode cX4_init 4 = .ok (.aload_n 0, 1) := by decide +kernel
theorem dX4_init_5 : decode cX4_init 5 = .ok (.bipush 20, 2) := by decide +kernel
theorem dX4_init_7 : decode cX4_init 7 = .ok (.putfield 7, 3) := by decide +kernel
theorem dX4_init_10 : decode cX4_init 10 = .ok (.aload_n 0, 1) := by decide +kernel
theorem dX4_init_11 : decode cX4_init 11 = .ok (.iconst (-1), 1) := by decide +kernel
theorem dX4_init_12 : decode cX4_init 12 = .ok (.putfield 13, 3) := by decide +kernel
theorem dX4_init_15 : decode cX4_init 15 = .ok (.aload_n 0, 1) := by decide +kernel
theorem dX4_init_16 : decode cX4_init 16 = .ok (.iconst (-1), 1) := by decide +kernel
theorem dX4_init_17 : decode cX4_init 17 = .ok (.putfield 16, 3) := by decide +kernel
theorem dX4_init_20 : decode cX4_init 20 = .ok (.return_, 1) := by decide +kernel
