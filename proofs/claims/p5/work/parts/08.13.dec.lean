theorem dX12_body_11 : decode cX12_body 11 = .ok (.aload_n 0, 1) := by decide +kernel
theorem dX12_body_12 : decode cX12_body 12 = .ok (.getfield 242, 3) := by decide +kernel
theorem dX12_body_15 : decode cX12_body 15 = .ok (.bipush 120, 2) := by decide +kernel
theorem dX12_body_17 : decode cX12_body 17 = .ok (.if_icmp .ne 8, 3) := by decide +kernel
theorem dX12_body_20 : decode cX12_body 20 = .ok (.bipush (-3), 2) := by decide +kernel
theorem dX12_body_22 : decode cX12_body 22 = .ok (.goto 8, 3) := by decide +kernel
theorem dX12_body_25 : decode cX12_body 25 = .ok (.aload_n 0, 1) := by decide +kernel
theorem dX12_body_26 : decode cX12_body 26 = .ok (.iload_n 1, 1) := by decide +kernel
theorem dX12_body_27 : decode cX12_body 27 = .ok (.invokevirtual 252, 3) := by decide +kernel
theorem dX12_body_30 : decode cX12_body 30 = .ok (.ireturn, 1) := by decide +kernel
theorem dX12_hole_0 : decode cX12_hole 0 = .ok (.iload_n 1, 1) := by decide +kernel
theorem dX12_hole_1 : decode cX12_hole 1 = .ok (.iconst 2, 1) := by decide +kernel
theorem dX12_hole_2 : decode cX12_hole 2 = .ok (.iconst 5, 1) := by decide +kernel
theorem dX12_hole_3 : decode cX12_hole 3 = .ok (.invokestatic 230, 3) := by decide +kernel
theorem dX12_hole_6 : decode cX12_hole 6 = .ok (.ifCond .eq 23, 3) := by decide +kernel
theorem dX12_hole_9 : decode cX12_hole 9 = .ok (.iload_n 2, 1) := by decide +kernel
theorem dX12_hole_10 : decode cX12_hole 10 = .ok (.ifCond .lt 19, 3) := by decide +kernel
theorem dX12_hole_13 : decode cX12_hole 13 = .ok (.iload_n 2, 1) := by decide +kernel
theorem dX12_hole_14 : decode cX12_hole 14 = .ok (.bipush 100, 2) := by decide +kernel
theorem dX12_hole_16 : decode cX12_hole 16 = .ok (.idiv, 1) := by decide +kernel
theorem dX12_hole_17 : decode cX12_hole 17 = .ok (.bipush 32, 2) := by decide +kernel
theorem dX12_hole_19 : decode cX12_hole 19 = .ok (.if_icmp .ge 10, 3) := by decide +kernel
theorem dX12_hole_22 : decode cX12_hole 22 = .ok (.iload_n 2, 1) := by decide +kernel
theorem dX12_hole_23 : decode cX12_hole 23 = .ok (.bipush 100, 2) := by decide +kernel
theorem dX12_hole_25 : decode cX12_hole 25 = .ok (.irem, 1) := by decide +kernel
theorem dX12_hole_26 : decode cX12_hole 26 = .ok (.ifCond .ne 5, 3) := by decide +kernel
theorem dX12_hole_29 : decode cX12_hole 29 = .ok (.iconst (-1), 1) := by decide +kernel
theorem dX12_hole_30 : decode cX12_hole 30 = .ok (.ireturn, 1) := by decide +kernel
theorem dX12_hole_31 : decode cX12_hole 31 = .ok (.aload_n 0, 1) := by decide +kernel
theorem dX12_hole_32 : decode cX12_hole 32 = .ok (.getfield 242, 3) := by decide +kernel
theorem dX12_hole_35 : decode cX12_hole 35 = .ok (.bipush 120, 2) := by decide +kernel
theorem dX12_hole_37 : decode cX12_hole 37 = .ok (.if_icmp .ne 6, 3) := by decide +kernel
theorem dX12_hole_40 : decode cX12_hole 40 = .ok (.bipush (-3), 2) := by decide +kernel
theorem dX12_hole_42 : decode cX12_hole 42 = .ok (.ireturn, 1) := by decide +kernel
theorem dX12_hole_43 : decode cX12_hole 43 = .ok (.aload_n 0, 1) := by decide +kernel
theorem dX12_hole_44 : decode cX12_hole 44 = .ok (.iload_n 1, 1) := by decide +kernel
theorem dX12_hole_45 : decode cX12_hole 45 = .ok (.invokevirtual 252, 3) := by decide +kernel
theorem dX12_hole_48 : decode cX12_hole 48 = .ok (.istore_n 3, 1) := by decide +kernel
theorem dX12_hole_49 : decode cX12_hole 49 = .ok (.aload_n 0, 1) := by decide +kernel
theorem dX12_hole_50 : decode cX12_hole 50 = .ok (.getfield 20, 3) := by decide +kernel
theorem dX12_hole_53 : decode cX12_hole 53 = .ok (.iload_n 3, 1) := by decide +kernel
theorem dX12_hole_54 : decode cX12_hole 54 = .ok (.iload_n 2, 1) := by decide +kernel
theorem dX12_hole_55 : decode cX12_hole 55 = .ok (.bipush 100, 2) := by decide +kernel
theorem dX12_hole_57 : decode cX12_hole 57 = .ok (.idiv, 1) := by decide +kernel
theorem dX12_hole_58 : decode cX12_hole 58 = .ok (.iastore, 1) := by decide +kernel
theorem dX12_hole_59 : decode cX12_hole 59 = .ok (.aload_n 0, 1) := by decide +kernel
theorem dX12_hole_60 : decode cX12_hole 60 = .ok (.getfield 26, 3) := by decide +kernel
theorem dX12_hole_63 : decode cX12_hole 63 = .ok (.iload_n 3, 1) := by decide +kernel
theorem dX12_hole_64 : decode cX12_hole 64 = .ok (.iload_n 2, 1) := by decide +kernel
theorem dX12_hole_65 : decode cX12_hole 65 = .ok (.bipush 100, 2) := by decide +kernel
theorem dX12_hole_67 : decode cX12_hole 67 = .ok (.idiv, 1) := by decide +kernel
theorem dX12_hole_68 : decode cX12_hole 68 = .ok (.iastore, 1) := by decide +kernel
theorem dX12_hole_69 : decode cX12_hole 69 = .ok (.aload_n 0, 1) := by decide +kernel
theorem dX12_hole_70 : decode cX12_hole 70 = .ok (.getfield 23, 3) := by decide +kernel
theorem dX12_hole_73 : decode cX12_hole 73 = .ok (.iload_n 3, 1) := by decide +kernel
theorem dX12_hole_74 : decode cX12_hole 74 = .ok (.iload_n 2, 1) := by decide +kernel
theorem dX12_hole_75 : decode cX12_hole 75 = .ok (.bipush 100, 2) := by decide +kernel
theorem dX12_hole_77 : decode cX12_hole 77 = .ok (.irem, 1) := by decide +kernel
theorem dX12_hole_78 : decode cX12_hole 78 = .ok (.iastore, 1) := by decide +kernel
theorem dX12_hole_79 : decode cX12_hole 79 = .ok (.iload_n 3, 1) := by decide +kernel
theorem dX12_hole_80 : decode cX12_hole 80 = .ok (.ireturn, 1) := by decide +kernel
theorem dX12_isSpan_0 : decode cX12_isSpan 0 = .ok (.iload_n 0, 1) := by decide +kernel
theorem dX12_isSpan_1 : decode cX12_isSpan 1 = .ok (.ifCond .lt 27, 3) := by decide +kernel
theorem dX12_isSpan_4 : decode cX12_isSpan 4 = .ok (.iload_n 0, 1) := by decide +kernel
theorem dX12_isSpan_5 : decode cX12_isSpan 5 = .ok (.bipush 100, 2) := by decide +kernel
theorem dX12_isSpan_7 : decode cX12_isSpan 7 = .ok (.idiv, 1) := by decide +kernel
theorem dX12_isSpan_8 : decode cX12_isSpan 8 = .ok (.iload_n 0, 1) := by decide +kernel
theorem dX12_isSpan_9 : decode cX12_isSpan 9 = .ok (.bipush 100, 2) := by decide +kernel
theorem dX12_isSpan_11 : decode cX12_isSpan 11 = .ok (.irem, 1) := by decide +kernel
theorem dX12_isSpan_12 : decode cX12_isSpan 12 = .ok (.if_icmp .gt 16, 3) := by decide +kernel
theorem dX12_isSpan_15 : decode cX12_isSpan 15 = .ok (.iload_n 0, 1) := by decide +kernel
theorem dX12_isSpan_16 : decode cX12_isSpan 16 = .ok (.bipush 100, 2) := by decide +kernel
theorem dX12_isSpan_18 : decode cX12_isSpan 18 = .ok (.irem, 1) := by decide +kernel
theorem dX12_isSpan_19 : decode cX12_isSpan 19 = .ok (.bipush 32, 2) := by decide +kernel
theorem dX12_isSpan_21 : decode cX12_isSpan 21 = .ok (.if_icmp .ge 7, 3) := by decide +kernel
theorem dX12_isSpan_24 : decode cX12_isSpan 24 = .ok (.iconst 1, 1) := by decide +kernel
theorem dX12_isSpan_25 : decode cX12_isSpan 25 = .ok (.goto 4, 3) := by decide +kernel
theorem dX12_isSpan_28 : decode cX12_isSpan 28 = .ok (.iconst 0, 1) := by decide +kernel
theorem dX12_isSpan_29 : decode cX12_isSpan 29 = .ok (.ireturn, 1) := by decide +kernel
theorem dX12_shelter_0 : decode cX12_shelter 0 = .ok (.iload_n 1, 1) := by decide +kernel
theorem dX12_shelter_1 : decode cX12_shelter 1 = .ok (.invokestatic 255, 3) := by decide +kernel
theorem dX12_shelter_4 : decode cX12_shelter 4 = .ok (.ifCond .eq 13, 3) := by decide +kernel
theorem dX12_shelter_7 : decode cX12_shelter 7 = .ok (.iload_n 2, 1) := by decide +kernel
theorem dX12_shelter_8 : decode cX12_shelter 8 = .ok (.iconst 1, 1) := by decide +kernel
theorem dX12_shelter_9 : decode cX12_shelter 9 = .ok (.bipush 60, 2) := by decide +kernel
theorem dX12_shelter_11 : decode cX12_shelter 11 = .ok (.invokestatic 230, 3) := by decide +kernel
theorem dX12_shelter_14 : decode cX12_shelter 14 = .ok (.ifCond .ne 5, 3) := by decide +kernel
theorem dX12_shelter_17 : decode cX12_shelter 17 = .ok (.iconst (-1), 1) := by decide +kernel
theorem dX12_shelter_18 : decode cX12_shelter 18 = .ok (.ireturn, 1) := by decide +kernel
theorem dX12_shelter_19 : decode cX12_shelter 19 = .ok (.aload_n 0, 1) := by decide +kernel
theorem dX12_shelter_20 : decode cX12_shelter 20 = .ok (.getfield 65, 3) := by decide +kernel
theorem dX12_shelter_23 : decode cX12_shelter 23 = .ok (.ifCond .lt 6, 3) := by decide +kernel
theorem dX12_shelter_26 : decode cX12_shelter 26 = .ok (.bipush (-2), 2) := by decide +kernel
theorem dX12_shelter_28 : decode cX12_shelter 28 = .ok (.ireturn, 1) := by decide +kernel
theorem dX12_shelter_29 : decode cX12_shelter 29 = .ok (.aload_n 0, 1) := by decide +kernel
theorem dX12_shelter_30 : decode cX12_shelter 30 = .ok (.getfield 242, 3) := by decide +kernel
theorem dX12_shelter_33 : decode cX12_shelter 33 = .ok (.bipush 120, 2) := by decide +kernel
theorem dX12_shelter_35 : decode cX12_shelter 35 = .ok (.if_icmp .ne 6, 3) := by decide +kernel
theorem dX12_shelter_38 : decode cX12_shelter 38 = .ok (.bipush (-3), 2) := by decide +kernel
theorem dX12_shelter_40 : decode cX12_shelter 40 = .ok (.ireturn, 1) := by decide +kernel
theorem dX12_shelter_41 : decode cX12_shelter 41 = .ok (.aload_n 0, 1) := by decide +kernel
theorem dX12_shelter_42 : decode cX12_shelter 42 = .ok (.aload_n 0, 1) := by decide +kernel
theorem dX12_shelter_43 : decode cX12_shelter 43 = .ok (.bipush 6, 2) := by decide +kernel
theorem dX12_shelter_45 : decode cX12_shelter 45 = .ok (.invokevirtual 252, 3) := by decide +kernel
theorem dX12_shelter_48 : decode cX12_shelter 48 = .ok (.putfield 65, 3) := by decide +kernel
theorem dX12_shelter_51 : decode cX12_shelter 51 = .ok (.aload_n 0, 1) := by decide +kernel
theorem dX12_shelter_52 : decode cX12_shelter 52 = .ok (.iload_n 1, 1) := by decide +kernel
theorem dX12_shelter_53 : decode cX12_shelter 53 = .ok (.bipush 100, 2) := by decide +kernel
theorem dX12_shelter_55 : decode cX12_shelter 55 = .ok (.idiv, 1) := by decide +kernel
theorem dX12_shelter_56 : decode cX12_shelter 56 = .ok (.putfield 258, 3) := by decide +kernel
theorem dX12_shelter_59 : decode cX12_shelter 59 = .ok (.aload_n 0, 1) := by decide +kernel
theorem dX12_shelter_60 : decode cX12_shelter 60 = .ok (.iload_n 1, 1) := by decide +kernel
theorem dX12_shelter_61 : decode cX12_shelter 61 = .ok (.bipush 100, 2) := by decide +kernel
theorem dX12_shelter_63 : decode cX12_shelter 63 = .ok (.irem, 1) := by decide +kernel
theorem dX12_shelter_64 : decode cX12_shelter 64 = .ok (.putfield 261, 3) := by decide +kernel
theorem dX12_shelter_67 : decode cX12_shelter 67 = .ok (.aload_n 0, 1) := by decide +kernel
theorem dX12_shelter_68 : decode cX12_shelter 68 = .ok (.iload_n 2, 1) := by decide +kernel
theorem dX12_shelter_69 : decode cX12_shelter 69 = .ok (.putfield 264, 3) := by decide +kernel
theorem dX12_shelter_72 : decode cX12_shelter 72 = .ok (.aload_n 0, 1) := by decide +kernel
theorem dX12_shelter_73 : decode cX12_shelter 73 = .ok (.getfield 65, 3) := by decide +kernel
theorem dX12_shelter_76 : decode cX12_shelter 76 = .ok (.ireturn, 1) := by decide +kernel
theorem dX12_man_0 : decode cX12_man 0 = .ok (.iload_n 1, 1) := by decide +kernel
theorem dX12_man_1 : decode cX12_man 1 = .ok (.iconst 0, 1) := by decide +kernel
theorem dX12_man_2 : decode cX12_man 2 = .ok (.sipush 999, 3) := by decide +kernel
theorem dX12_man_5 : decode cX12_man 5 = .ok (.invokestatic 230, 3) := by decide +kernel
theorem dX12_man_8 : decode cX12_man 8 = .ok (.ifCond .eq 13, 3) := by decide +kernel
theorem dX12_man_11 : decode cX12_man 11 = .ok (.iload_n 2, 1) := by decide +kernel
theorem dX12_man_12 : decode cX12_man 12 = .ok (.iconst 0, 1) := by decide +kernel
theorem dX12_man_13 : decode cX12_man 13 = .ok (.bipush 99, 2) := by decide +kernel
theorem dX12_man_15 : decode cX12_man 15 = .ok (.invokestatic 230, 3) := by decide +kernel
theorem dX12_man_18 : decode cX12_man 18 = .ok (.ifCond .ne 5, 3) := by decide +kernel
theorem dX12_man_21 : decode cX12_man 21 = .ok (.iconst (-1), 1) := by decide +kernel
theorem dX12_man_22 : decode cX12_man 22 = .ok (.ireturn, 1) := by decide +kernel
theorem dX12_man_23 : decode cX12_man 23 = .ok (.aload_n 0, 1) := by decide +kernel
theorem dX12_man_24 : decode cX12_man 24 = .ok (.getfield 242, 3) := by decide +kernel
theorem dX12_man_27 : decode cX12_man 27 = .ok (.bipush 120, 2) := by decide +kernel
theorem dX12_man_29 : decode cX12_man 29 = .ok (.if_icmp .ne 6, 3) := by decide +kernel
theorem dX12_man_32 : decode cX12_man 32 = .ok (.bipush (-3), 2) := by decide +kernel
theorem dX12_man_34 : decode cX12_man 34 = .ok (.ireturn, 1) := by decide +kernel
theorem dX12_man_35 : decode cX12_man 35 = .ok (.aload_n 0, 1) := by decide +kernel
theorem dX12_man_36 : decode cX12_man 36 = .ok (.bipush 7, 2) := by decide +kernel
theorem dX12_man_38 : decode cX12_man 38 = .ok (.invokevirtual 252, 3) := by decide +kernel
theorem dX12_man_41 : decode cX12_man 41 = .ok (.istore_n 3, 1) := by decide +kernel
theorem dX12_man_42 : decode cX12_man 42 = .ok (.aload_n 0, 1) := by decide +kernel
theorem dX12_man_43 : decode cX12_man 43 = .ok (.getfield 53, 3) := by decide +kernel
theorem dX12_man_46 : decode cX12_man 46 = .ok (.iload_n 3, 1) := by decide +kernel
theorem dX12_man_47 : decode cX12_man 47 = .ok (.iload_n 1, 1) := by decide +kernel
theorem dX12_man_48 : decode cX12_man 48 = .ok (.iastore, 1) := by decide +kernel
theorem dX12_man_49 : decode cX12_man 49 = .ok (.aload_n 0, 1) := by decide +kernel
theorem dX12_man_50 : decode cX12_man 50 = .ok (.getfield 56, 3) := by decide +kernel
theorem dX12_man_53 : decode cX12_man 53 = .ok (.iload_n 3, 1) := by decide +kernel
theorem dX12_man_54 : decode cX12_man 54 = .ok (.iload_n 2, 1) := by decide +kernel
theorem dX12_man_55 : decode cX12_man 55 = .ok (.bipush 10, 2) := by decide +kernel
theorem dX12_man_57 : decode cX12_man 57 = .ok (.idiv, 1) := by decide +kernel
theorem dX12_man_58 : decode cX12_man 58 = .ok (.iastore, 1) := by decide +kernel
theorem dX12_man_59 : decode cX12_man 59 = .ok (.aload_n 0, 1) := by decide +kernel
theorem dX12_man_60 : decode cX12_man 60 = .ok (.getfield 59, 3) := by decide +kernel
theorem dX12_man_63 : decode cX12_man 63 = .ok (.iload_n 3, 1) := by decide +kernel
theorem dX12_man_64 : decode cX12_man 64 = .ok (.iload_n 2, 1) := by decide +kernel
theorem dX12_man_65 : decode cX12_man 65 = .ok (.bipush 10, 2) := by decide +kernel
theorem dX12_man_67 : decode cX12_man 67 = .ok (.irem, 1) := by decide +kernel
theorem dX12_man_68 : decode cX12_man 68 = .ok (.iastore, 1) := by decide +kernel
theorem dX12_man_69 : decode cX12_man 69 = .ok (.aload_n 0, 1) := by decide +kernel
theorem dX12_man_70 : decode cX12_man 70 = .ok (.getfield 62, 3) := by decide +kernel
theorem dX12_man_73 : decode cX12_man 73 = .ok (.iload_n 3, 1) := by decide +kernel
theorem dX12_man_74 : decode cX12_man 74 = .ok (.iconst 1, 1) := by decide +kernel
theorem dX12_man_75 : decode cX12_man 75 = .ok (.bastore, 1) := by decide +kernel
theorem dX12_man_76 : decode cX12_man 76 = .ok (.iload_n 3, 1) := by decide +kernel
theorem dX12_man_77 : decode cX12_man 77 = .ok (.ireturn, 1) := by decide +kernel
theorem dX12_ofBody_0 : decode cX12_ofBody 0 = .ok (.aload_n 0, 1) := by decide +kernel
theorem dX12_ofBody_1 : decode cX12_ofBody 1 = .ok (.iload_n 1, 1) := by decide +kernel
theorem dX12_ofBody_2 : decode cX12_ofBody 2 = .ok (.invokevirtual 245, 3) := by decide +kernel
theorem dX12_ofBody_5 : decode cX12_ofBody 5 = .ok (.ifCond .ne 7, 3) := by decide +kernel
theorem dX12_ofBody_8 : decode cX12_ofBody 8 = .ok (.ldc_w 267, 3) := by decide +kernel
theorem dX12_ofBody_11 : decode cX12_ofBody 11 = .ok (.ireturn, 1) := by decide +kernel
theorem dX12_ofBody_12 : decode cX12_ofBody 12 = .ok (.iload_n 2, 1) := by decide +kernel
theorem dX12_ofBody_13 : decode cX12_ofBody 13 = .ok (.ifCond .ne 10, 3) := by decide +kernel
theorem dX12_ofBody_16 : decode cX12_ofBody 16 = .ok (.aload_n 0, 1) := by decide +kernel
theorem dX12_ofBody_17 : decode cX12_ofBody 17 = .ok (.getfield 17, 3) := by decide +kernel
theorem dX12_ofBody_20 : decode cX12_ofBody 20 = .ok (.iload_n 1, 1) := by decide +kernel
theorem dX12_ofBody_21 : decode cX12_ofBody 21 = .ok (.iaload, 1) := by decide +kernel
theorem dX12_ofBody_22 : decode cX12_ofBody 22 = .ok (.ireturn, 1) := by decide +kernel
theorem dX12_ofBody_23 : decode cX12_ofBody 23 = .ok (.aload_n 0, 1) := by decide +kernel
theorem dX12_ofBody_24 : decode cX12_ofBody 24 = .ok (.iload_n 1, 1) := by decide +kernel
theorem dX12_ofBody_25 : decode cX12_ofBody 25 = .ok (.invokevirtual 268, 3) := by decide +kernel
theorem dX12_ofBody_28 : decode cX12_ofBody 28 = .ok (.ifCond .eq 109, 3) := by decide +kernel
theorem dX12_ofBody_31 : decode cX12_ofBody 31 = .ok (.iload_n 2, 1) := by decide +kernel
theorem dX12_ofBody_32 : decode cX12_ofBody 32 = .ok (.tableswitch 101 1 7 #[44, 51, 58, 65, 72, 87, 94], 44) := by decide +kernel
theorem dX12_ofBody_76 : decode cX12_ofBody 76 = .ok (.aload_n 0, 1) := by decide +kernel
theorem dX12_ofBody_77 : decode cX12_ofBody 77 = .ok (.getfield 20, 3) := by decide +kernel
theorem dX12_ofBody_80 : decode cX12_ofBody 80 = .ok (.iload_n 1, 1) := by decide +kernel
theorem dX12_ofBody_81 : decode cX12_ofBody 81 = .ok (.iaload, 1) := by decide +kernel
theorem dX12_ofBody_82 : decode cX12_ofBody 82 = .ok (.ireturn, 1) := by decide +kernel
theorem dX12_ofBody_83 : decode cX12_ofBody 83 = .ok (.aload_n 0, 1) := by decide +kernel
theorem dX12_ofBody_84 : decode cX12_ofBody 84 = .ok (.getfield 23, 3) := by decide +kernel
theorem dX12_ofBody_87 : decode cX12_ofBody 87 = .ok (.iload_n 1, 1) := by decide +kernel
theorem dX12_ofBody_88 : decode cX12_ofBody 88 = .ok (.iaload, 1) := by decide +kernel
theorem dX12_ofBody_89 : decode cX12_ofBody 89 = .ok (.ireturn, 1) := by decide +kernel
theorem dX12_ofBody_90 : decode cX12_ofBody 90 = .ok (.aload_n 0, 1) := by decide +kernel
theorem dX12_ofBody_91 : decode cX12_ofBody 91 = .ok (.getfield 32, 3) := by decide +kernel
theorem dX12_ofBody_94 : decode cX12_ofBody 94 = .ok (.iload_n 1, 1) := by decide +kernel
theorem dX12_ofBody_95 : decode cX12_ofBody 95 = .ok (.iaload, 1) := by decide +kernel
theorem dX12_ofBody_96 : decode cX12_ofBody 96 = .ok (.ireturn, 1) := by decide +kernel
theorem dX12_ofBody_97 : decode cX12_ofBody 97 = .ok (.aload_n 0, 1) := by decide +kernel
theorem dX12_ofBody_98 : decode cX12_ofBody 98 = .ok (.getfield 26, 3) := by decide +kernel
theorem dX12_ofBody_101 : decode cX12_ofBody 101 = .ok (.iload_n 1, 1) := by decide +kernel
theorem dX12_ofBody_102 : decode cX12_ofBody 102 = .ok (.iaload, 1) := by decide +kernel
theorem dX12_ofBody_103 : decode cX12_ofBody 103 = .ok (.ireturn, 1) := by decide +kernel
theorem dX12_ofBody_104 : decode cX12_ofBody 104 = .ok (.aload_n 0, 1) := by decide +kernel
theorem dX12_ofBody_105 : decode cX12_ofBody 105 = .ok (.getfield 38, 3) := by decide +kernel
theorem dX12_ofBody_108 : decode cX12_ofBody 108 = .ok (.iload_n 1, 1) := by decide +kernel
theorem dX12_ofBody_109 : decode cX12_ofBody 109 = .ok (.iaload, 1) := by decide +kernel
theorem dX12_ofBody_110 : decode cX12_ofBody 110 = .ok (.ifCond .le 7, 3) := by decide +kernel
theorem dX12_ofBody_113 : decode cX12_ofBody 113 = .ok (.iconst 1, 1) := by decide +kernel
theorem dX12_ofBody_114 : decode cX12_ofBody 114 = .ok (.goto 4, 3) := by decide +kernel
theorem dX12_ofBody_117 : decode cX12_ofBody 117 = .ok (.iconst 0, 1) := by decide +kernel
theorem dX12_ofBody_118 : decode cX12_ofBody 118 = .ok (.ireturn, 1) := by decide +kernel
theorem dX12_ofBody_119 : decode cX12_ofBody 119 = .ok (.aload_n 0, 1) := by decide +kernel
theorem dX12_ofBody_120 : decode cX12_ofBody 120 = .ok (.getfield 35, 3) := by decide +kernel
theorem dX12_ofBody_123 : decode cX12_ofBody 123 = .ok (.iload_n 1, 1) := by decide +kernel
theorem dX12_ofBody_124 : decode cX12_ofBody 124 = .ok (.iaload, 1) := by decide +kernel
theorem dX12_ofBody_125 : decode cX12_ofBody 125 = .ok (.ireturn, 1) := by decide +kernel
theorem dX12_ofBody_126 : decode cX12_ofBody 126 = .ok (.aload_n 0, 1) := by decide +kernel
theorem dX12_ofBody_127 : decode cX12_ofBody 127 = .ok (.getfield 29, 3) := by decide +kernel
theorem dX12_ofBody_130 : decode cX12_ofBody 130 = .ok (.iload_n 1, 1) := by decide +kernel
theorem dX12_ofBody_131 : decode cX12_ofBody 131 = .ok (.iaload, 1) := by decide +kernel
theorem dX12_ofBody_132 : decode cX12_ofBody 132 = .ok (.ireturn, 1) := by decide +kernel
theorem dX12_ofBody_133 : decode cX12_ofBody 133 = .ok (.ldc_w 267, 3) := by decide +kernel
theorem dX12_ofBody_136 : decode cX12_ofBody 136 = .ok (.ireturn, 1) := by decide +kernel
theorem dX12_ofBody_137 : decode cX12_ofBody 137 = .ok (.aload_n 0, 1) := by decide +kernel
theorem dX12_ofBody_138 : decode cX12_ofBody 138 = .ok (.getfield 17, 3) := by decide +kernel
theorem dX12_ofBody_141 : decode cX12_ofBody 141 = .ok (.iload_n 1, 1) := by decide +kernel
theorem dX12_ofBody_142 : decode cX12_ofBody 142 = .ok (.iaload, 1) := by decide +kernel
theorem dX12_ofBody_143 : decode cX12_ofBody 143 = .ok (.bipush 6, 2) := by decide +kernel
theorem dX12_ofBody_145 : decode cX12_ofBody 145 = .ok (.if_icmp .ne 63, 3) := by decide +kernel
theorem dX12_ofBody_148 : decode cX12_ofBody 148 = .ok (.iload_n 2, 1) := by decide +kernel
theorem dX12_ofBody_149 : decode cX12_ofBody 149 = .ok (.iconst 1, 1) := by decide +kernel
theorem dX12_ofBody_150 : decode cX12_ofBody 150 = .ok (.if_icmp .ne 10, 3) := by decide +kernel
theorem dX12_ofBody_153 : decode cX12_ofBody 153 = .ok (.aload_n 0, 1) := by decide +kernel
theorem dX12_ofBody_154 : decode cX12_ofBody 154 = .ok (.getfield 258, 3) := by decide +kernel
theorem dX12_ofBody_157 : decode cX12_ofBody 157 = .ok (.goto 50, 3) := by decide +kernel
theorem dX12_ofBody_160 : decode cX12_ofBody 160 = .ok (.iload_n 2, 1) := by decide +kernel
theorem dX12_ofBody_161 : decode cX12_ofBody 161 = .ok (.iconst 2, 1) := by decide +kernel
theorem dX12_ofBody_162 : decode cX12_ofBody 162 = .ok (.if_icmp .ne 10, 3) := by decide +kernel
theorem dX12_ofBody_165 : decode cX12_ofBody 165 = .ok (.aload_n 0, 1) := by decide +kernel
theorem dX12_ofBody_166 : decode cX12_ofBody 166 = .ok (.getfield 261, 3) := by decide +kernel
theorem dX12_ofBody_169 : decode cX12_ofBody 169 = .ok (.goto 38, 3) := by decide +kernel
theorem dX12_ofBody_172 : decode cX12_ofBody 172 = .ok (.iload_n 2, 1) := by decide +kernel
theorem dX12_ofBody_173 : decode cX12_ofBody 173 = .ok (.iconst 3, 1) := by decide +kernel
theorem dX12_ofBody_174 : decode cX12_ofBody 174 = .ok (.if_icmp .ne 10, 3) := by decide +kernel
theorem dX12_ofBody_177 : decode cX12_ofBody 177 = .ok (.aload_n 0, 1) := by decide +kernel
theorem dX12_ofBody_178 : decode cX12_ofBody 178 = .ok (.getfield 264, 3) := by decide +kernel
theorem dX12_ofBody_181 : decode cX12_ofBody 181 = .ok (.goto 26, 3) := by decide +kernel
theorem dX12_ofBody_184 : decode cX12_ofBody 184 = .ok (.iload_n 2, 1) := by decide +kernel
theorem dX12_ofBody_185 : decode cX12_ofBody 185 = .ok (.iconst 4, 1) := by decide +kernel
theorem dX12_ofBody_186 : decode cX12_ofBody 186 = .ok (.if_icmp .ne 18, 3) := by decide +kernel
theorem dX12_ofBody_189 : decode cX12_ofBody 189 = .ok (.aload_n 0, 1) := by decide +kernel
theorem dX12_ofBody_190 : decode cX12_ofBody 190 = .ok (.getfield 271, 3) := by decide +kernel
theorem dX12_ofBody_193 : decode cX12_ofBody 193 = .ok (.ifCond .eq 7, 3) := by decide +kernel
theorem dX12_ofBody_196 : decode cX12_ofBody 196 = .ok (.iconst 1, 1) := by decide +kernel
theorem dX12_ofBody_197 : decode cX12_ofBody 197 = .ok (.goto 10, 3) := by decide +kernel
theorem dX12_ofBody_200 : decode cX12_ofBody 200 = .ok (.iconst 0, 1) := by decide +kernel
theorem dX12_ofBody_201 : decode cX12_ofBody 201 = .ok (.goto 6, 3) := by decide +kernel
theorem dX12_ofBody_204 : decode cX12_ofBody 204 = .ok (.ldc_w 267, 3) := by decide +kernel
theorem dX12_ofBody_207 : decode cX12_ofBody 207 = .ok (.ireturn, 1) := by decide +kernel
theorem dX12_ofBody_208 : decode cX12_ofBody 208 = .ok (.aload_n 0, 1) := by decide +kernel
theorem dX12_ofBody_209 : decode cX12_ofBody 209 = .ok (.getfield 17, 3) := by decide +kernel
theorem dX12_ofBody_212 : decode cX12_ofBody 212 = .ok (.iload_n 1, 1) := by decide +kernel
theorem dX12_ofBody_213 : decode cX12_ofBody 213 = .ok (.iaload, 1) := by decide +kernel
theorem dX12_ofBody_214 : decode cX12_ofBody 214 = .ok (.bipush 7, 2) := by decide +kernel
theorem dX12_ofBody_216 : decode cX12_ofBody 216 = .ok (.if_icmp .eq 7, 3) := by decide +kernel
theorem dX12_ofBody_219 : decode cX12_ofBody 219 = .ok (.ldc_w 267, 3) := by decide +kernel
theorem dX12_ofBody_222 : decode cX12_ofBody 222 = .ok (.ireturn, 1) := by decide +kernel
theorem dX12_ofBody_223 : decode cX12_ofBody 223 = .ok (.iload_n 2, 1) := by decide +kernel
theorem dX12_ofBody_224 : decode cX12_ofBody 224 = .ok (.iconst 1, 1) := by decide +kernel
theorem dX12_ofBody_225 : decode cX12_ofBody 225 = .ok (.if_icmp .ne 12, 3) := by decide +kernel
theorem dX12_ofBody_228 : decode cX12_ofBody 228 = .ok (.aload_n 0, 1) := by decide +kernel
theorem dX12_ofBody_229 : decode cX12_ofBody 229 = .ok (.getfield 53, 3) := by decide +kernel
theorem dX12_ofBody_232 : decode cX12_ofBody 232 = .ok (.iload_n 1, 1) := by decide +kernel
theorem dX12_ofBody_233 : decode cX12_ofBody 233 = .ok (.iaload, 1) := by decide +kernel
theorem dX12_ofBody_234 : decode cX12_ofBody 234 = .ok (.goto 56, 3) := by decide +kernel
theorem dX12_ofBody_237 : decode cX12_ofBody 237 = .ok (.iload_n 2, 1) := by decide +kernel
theorem dX12_ofBody_238 : decode cX12_ofBody 238 = .ok (.iconst 2, 1) := by decide +kernel
theorem dX12_ofBody_239 : decode cX12_ofBody 239 = .ok (.if_icmp .ne 12, 3) := by decide +kernel
theorem dX12_ofBody_242 : decode cX12_ofBody 242 = .ok (.aload_n 0, 1) := by decide +kernel
theorem dX12_ofBody_243 : decode cX12_ofBody 243 = .ok (.getfield 56, 3) := by decide +kernel
theorem dX12_ofBody_246 : decode cX12_ofBody 246 = .ok (.iload_n 1, 1) := by decide +kernel
theorem dX12_ofBody_247 : decode cX12_ofBody 247 = .ok (.iaload, 1) := by decide +kernel
theorem dX12_ofBody_248 : decode cX12_ofBody 248 = .ok (.goto 42, 3) := by decide +kernel
theorem dX12_ofBody_251 : decode cX12_ofBody 251 = .ok (.iload_n 2, 1) := by decide +kernel
theorem dX12_ofBody_252 : decode cX12_ofBody 252 = .ok (.iconst 3, 1) := by decide +kernel
theorem dX12_ofBody_253 : decode cX12_ofBody 253 = .ok (.if_icmp .ne 12, 3) := by decide +kernel
theorem dX12_ofBody_256 : decode cX12_ofBody 256 = .ok (.aload_n 0, 1) := by decide +kernel
theorem dX12_ofBody_257 : decode cX12_ofBody 257 = .ok (.getfield 59, 3) := by decide +kernel
theorem dX12_ofBody_260 : decode cX12_ofBody 260 = .ok (.iload_n 1, 1) := by decide +kernel
theorem dX12_ofBody_261 : decode cX12_ofBody 261 = .ok (.iaload, 1) := by decide +kernel
theorem dX12_ofBody_262 : decode cX12_ofBody 262 = .ok (.goto 28, 3) := by decide +kernel
theorem dX12_ofBody_265 : decode cX12_ofBody 265 = .ok (.iload_n 2, 1) := by decide +kernel
theorem dX12_ofBody_266 : decode cX12_ofBody 266 = .ok (.iconst 4, 1) := by decide +kernel
theorem dX12_ofBody_267 : decode cX12_ofBody 267 = .ok (.if_icmp .ne 20, 3) := by decide +kernel
theorem dX12_ofBody_270 : decode cX12_ofBody 270 = .ok (.aload_n 0, 1) := by decide +kernel
theorem dX12_ofBody_271 : decode cX12_ofBody 271 = .ok (.getfield 62, 3) := by decide +kernel
theorem dX12_ofBody_274 : decode cX12_ofBody 274 = .ok (.iload_n 1, 1) := by decide +kernel
theorem dX12_ofBody_275 : decode cX12_ofBody 275 = .ok (.baload, 1) := by decide +kernel
theorem dX12_ofBody_276 : decode cX12_ofBody 276 = .ok (.ifCond .eq 7, 3) := by decide +kernel
theorem dX12_ofBody_279 : decode cX12_ofBody 279 = .ok (.iconst 1, 1) := by decide +kernel
theorem dX12_ofBody_280 : decode cX12_ofBody 280 = .ok (.goto 10, 3) := by decide +kernel
theorem dX12_ofBody_283 : decode cX12_ofBody 283 = .ok (.iconst 0, 1) := by decide +kernel
theorem dX12_ofBody_284 : decode cX12_ofBody 284 = .ok (.goto 6, 3) := by decide +kernel
theorem dX12_ofBody_287 : decode cX12_ofBody 287 = .ok (.ldc_w 267, 3) := by decide +kernel
theorem dX12_ofBody_290 : decode cX12_ofBody 290 = .ok (.ireturn, 1) := by decide +kernel
theorem dX12_ill_0 : decode cX12_ill 0 = .ok (.aload_n 0, 1) := by decide +kernel
theorem dX12_ill_1 : decode cX12_ill 1 = .ok (.iload_n 1, 1) := by decide +kernel
theorem dX12_ill_2 : decode cX12_ill 2 = .ok (.invokevirtual 275, 3) := by decide +kernel
theorem dX12_ill_5 : decode cX12_ill 5 = .ok (.ifCond .eq 13, 3) := by decide +kernel
theorem dX12_ill_8 : decode cX12_ill 8 = .ok (.iload_n 2, 1) := by decide +kernel
theorem dX12_ill_9 : decode cX12_ill 9 = .ok (.iconst 0, 1) := by decide +kernel
theorem dX12_ill_10 : decode cX12_ill 10 = .ok (.bipush 9, 2) := by decide +kernel
theorem dX12_ill_12 : decode cX12_ill 12 = .ok (.invokestatic 230, 3) := by decide +kernel
theorem dX12_ill_15 : decode cX12_ill 15 = .ok (.ifCond .ne 5, 3) := by decide +kernel
theorem dX12_ill_18 : decode cX12_ill 18 = .ok (.iconst (-1), 1) := by decide +kernel
theorem dX12_ill_19 : decode cX12_ill 19 = .ok (.ireturn, 1) := by decide +kernel
theorem dX12_ill_20 : decode cX12_ill 20 = .ok (.aload_n 0, 1) := by decide +kernel
theorem dX12_ill_21 : decode cX12_ill 21 = .ok (.getfield 59, 3) := by decide +kernel
theorem dX12_ill_24 : decode cX12_ill 24 = .ok (.iload_n 1, 1) := by decide +kernel
theorem dX12_ill_25 : decode cX12_ill 25 = .ok (.iaload, 1) := by decide +kernel
theorem dX12_ill_26 : decode cX12_ill 26 = .ok (.istore_n 3, 1) := by decide +kernel
theorem dX12_ill_27 : decode cX12_ill 27 = .ok (.aload_n 0, 1) := by decide +kernel
theorem dX12_ill_28 : decode cX12_ill 28 = .ok (.getfield 59, 3) := by decide +kernel
theorem dX12_ill_31 : decode cX12_ill 31 = .ok (.iload_n 1, 1) := by decide +kernel
theorem dX12_ill_32 : decode cX12_ill 32 = .ok (.iload_n 2, 1) := by decide +kernel
theorem dX12_ill_33 : decode cX12_ill 33 = .ok (.iastore, 1) := by decide +kernel
theorem dX12_ill_34 : decode cX12_ill 34 = .ok (.iload_n 3, 1) := by decide +kernel
theorem dX12_ill_35 : decode cX12_ill 35 = .ok (.ireturn, 1) := by decide +kernel
theorem dX12_menBelow_0 : decode cX12_menBelow 0 = .ok (.iconst 0, 1) := by decide +kernel
theorem dX12_menBelow_1 : decode cX12_menBelow 1 = .ok (.istore_n 1, 1) := by decide +kernel
theorem dX12_menBelow_2 : decode cX12_menBelow 2 = .ok (.iconst 0, 1) := by decide +kernel
theorem dX12_menBelow_3 : decode cX12_menBelow 3 = .ok (.istore_n 2, 1) := by decide +kernel
theorem dX12_menBelow_4 : decode cX12_menBelow 4 = .ok (.iload_n 2, 1) := by decide +kernel
theorem dX12_menBelow_5 : decode cX12_menBelow 5 = .ok (.aload_n 0, 1) := by decide +kernel
theorem dX12_menBelow_6 : decode cX12_menBelow 6 = .ok (.getfield 242, 3) := by decide +kernel
theorem dX12_menBelow_9 : decode cX12_menBelow 9 = .ok (.if_icmp .ge 26, 3) := by decide +kernel
theorem dX12_menBelow_12 : decode cX12_menBelow 12 = .ok (.iload_n 1, 1) := by decide +kernel
theorem dX12_menBelow_13 : decode cX12_menBelow 13 = .ok (.aload_n 0, 1) := by decide +kernel
theorem dX12_menBelow_14 : decode cX12_menBelow 14 = .ok (.getfield 62, 3) := by decide +kernel
theorem dX12_menBelow_17 : decode cX12_menBelow 17 = .ok (.iload_n 2, 1) := by decide +kernel
theorem dX12_menBelow_18 : decode cX12_menBelow 18 = .ok (.baload, 1) := by decide +kernel
theorem dX12_menBelow_19 : decode cX12_menBelow 19 = .ok (.ifCond .eq 7, 3) := by decide +kernel
theorem dX12_menBelow_22 : decode cX12_menBelow 22 = .ok (.iconst 1, 1) := by decide +kernel
theorem dX12_menBelow_23 : decode cX12_menBelow 23 = .ok (.goto 4, 3) := by decide +kernel
theorem dX12_menBelow_26 : decode cX12_menBelow 26 = .ok (.iconst 0, 1) := by decide +kernel
theorem dX12_menBelow_27 : decode cX12_menBelow 27 = .ok (.iadd, 1) := by decide +kernel
theorem dX12_menBelow_28 : decode cX12_menBelow 28 = .ok (.istore_n 1, 1) := by decide +kernel
theorem dX12_menBelow_29 : decode cX12_menBelow 29 = .ok (.iinc 2 1, 3) := by decide +kernel
theorem dX12_menBelow_32 : decode cX12_menBelow 32 = .ok (.goto (-28), 3) := by decide +kernel
theorem dX12_menBelow_35 : decode cX12_menBelow 35 = .ok (.iload_n 1, 1) := by decide +kernel
theorem dX12_menBelow_36 : decode cX12_menBelow 36 = .ok (.ireturn, 1) := by decide +kernel
theorem dX12_isMachine_0 : decode cX12_isMachine 0 = .ok (.iload_n 0, 1) := by decide +kernel
theorem dX12_isMachine_1 : decode cX12_isMachine 1 = .ok (.iconst 0, 1) := by decide +kernel
theorem dX12_isMachine_2 : decode cX12_isMachine 2 = .ok (.iconst 2, 1) := by decide +kernel
theorem dX12_isMachine_3 : decode cX12_isMachine 3 = .ok (.invokestatic 230, 3) := by decide +kernel
theorem dX12_isMachine_6 : decode cX12_isMachine 6 = .ok (.ireturn, 1) := by decide +kernel
theorem dX12_speed_0 : decode cX12_speed 0 = .ok (.iload_n 1, 1) := by decide +kernel
theorem dX12_speed_1 : decode cX12_speed 1 = .ok (.invokestatic 278, 3) := by decide +kernel
theorem dX12_speed_4 : decode cX12_speed 4 = .ok (.ifCond .eq 14, 3) := by decide +kernel
theorem dX12_speed_7 : decode cX12_speed 7 = .ok (.iload_n 2, 1) := by decide +kernel
theorem dX12_speed_8 : decode cX12_speed 8 = .ok (.bipush 10, 2) := by decide +kernel
theorem dX12_speed_10 : decode cX12_speed 10 = .ok (.bipush 60, 2) := by decide +kernel
theorem dX12_speed_12 : decode cX12_speed 12 = .ok (.invokestatic 230, 3) := by decide +kernel
theorem dX12_speed_15 : decode cX12_speed 15 = .ok (.ifCond .ne 5, 3) := by decide +kernel
theorem dX12_speed_18 : decode cX12_speed 18 = .ok (.iconst (-1), 1) := by decide +kernel
theorem dX12_speed_19 : decode cX12_speed 19 = .ok (.ireturn, 1) := by decide +kernel
theorem dX12_speed_20 : decode cX12_speed 20 = .ok (.aload_n 0, 1) := by decide +kernel
theorem dX12_speed_21 : decode cX12_speed 21 = .ok (.getfield 69, 3) := by decide +kernel
theorem dX12_speed_24 : decode cX12_speed 24 = .ok (.iload_n 1, 1) := by decide +kernel
theorem dX12_speed_25 : decode cX12_speed 25 = .ok (.iaload, 1) := by decide +kernel
theorem dX12_speed_26 : decode cX12_speed 26 = .ok (.istore_n 3, 1) := by decide +kernel
theorem dX12_speed_27 : decode cX12_speed 27 = .ok (.aload_n 0, 1) := by decide +kernel
theorem dX12_speed_28 : decode cX12_speed 28 = .ok (.getfield 69, 3) := by decide +kernel
theorem dX12_speed_31 : decode cX12_speed 31 = .ok (.iload_n 1, 1) := by decide +kernel
theorem dX12_speed_32 : decode cX12_speed 32 = .ok (.iload_n 2, 1) := by decide +kernel
theorem dX12_speed_33 : decode cX12_speed 33 = .ok (.iastore, 1) := by decide +kernel
theorem dX12_speed_34 : decode cX12_speed 34 = .ok (.iload_n 3, 1) := by decide +kernel
theorem dX12_speed_35 : decode cX12_speed 35 = .ok (.ireturn, 1) := by decide +kernel
theorem dX12_set_0 : decode cX12_set 0 = .ok (.iload_n 1, 1) := by decide +kernel
theorem dX12_set_1 : decode cX12_set 1 = .ok (.invokestatic 278, 3) := by decide +kernel
theorem dX12_set_4 : decode cX12_set 4 = .ok (.ifCond .eq 16, 3) := by decide +kernel
theorem dX12_set_7 : decode cX12_set 7 = .ok (.iload_n 2, 1) := by decide +kernel
theorem dX12_set_8 : decode cX12_set 8 = .ok (.iconst (-1), 1) := by decide +kernel
theorem dX12_set_9 : decode cX12_set 9 = .ok (.if_icmp .eq 15, 3) := by decide +kernel
theorem dX12_set_12 : decode cX12_set 12 = .ok (.aload_n 0, 1) := by decide +kernel
theorem dX12_set_13 : decode cX12_set 13 = .ok (.iload_n 2, 1) := by decide +kernel
theorem dX12_set_14 : decode cX12_set 14 = .ok (.invokevirtual 268, 3) := by decide +kernel
theorem dX12_set_17 : decode cX12_set 17 = .ok (.ifCond .ne 7, 3) := by decide +kernel
theorem dX12_set_20 : decode cX12_set 20 = .ok (.ldc_w 267, 3) := by decide +kernel
theorem dX12_set_23 : decode cX12_set 23 = .ok (.ireturn, 1) := by decide +kernel
theorem dX12_set_24 : decode cX12_set 24 = .ok (.iconst 0, 1) := by decide +kernel
theorem dX12_set_25 : decode cX12_set 25 = .ok (.istore_n 3, 1) := by decide +kernel
theorem dX12_set_26 : decode cX12_set 26 = .ok (.iload_n 3, 1) := by decide +kernel
theorem dX12_set_27 : decode cX12_set 27 = .ok (.iconst 3, 1) := by decide +kernel
theorem dX12_set_28 : decode cX12_set 28 = .ok (.if_icmp .ge 32, 3) := by decide +kernel
theorem dX12_set_31 : decode cX12_set 31 = .ok (.iload_n 3, 1) := by decide +kernel
theorem dX12_set_32 : decode cX12_set 32 = .ok (.iload_n 1, 1) := by decide +kernel
theorem dX12_set_33 : decode cX12_set 33 = .ok (.if_icmp .eq 21, 3) := by decide +kernel
theorem dX12_set_36 : decode cX12_set 36 = .ok (.iload_n 2, 1) := by decide +kernel
theorem dX12_set_37 : decode cX12_set 37 = .ok (.ifCond .lt 17, 3) := by decide +kernel
theorem dX12_set_40 : decode cX12_set 40 = .ok (.aload_n 0, 1) := by decide +kernel
theorem dX12_set_41 : decode cX12_set 41 = .ok (.getfield 72, 3) := by decide +kernel
theorem dX12_set_44 : decode cX12_set 44 = .ok (.iload_n 3, 1) := by decide +kernel
theorem dX12_set_45 : decode cX12_set 45 = .ok (.iaload, 1) := by decide +kernel
theorem dX12_set_46 : decode cX12_set 46 = .ok (.iload_n 2, 1) := by decide +kernel
theorem dX12_set_47 : decode cX12_set 47 = .ok (.if_icmp .ne 7, 3) := by decide +kernel
theorem dX12_set_50 : decode cX12_set 50 = .ok (.ldc_w 267, 3) := by decide +kernel
theorem dX12_set_53 : decode cX12_set 53 = .ok (.ireturn, 1) := by decide +kernel
theorem dX12_set_54 : decode cX12_set 54 = .ok (.iinc 3 1, 3) := by decide +kernel
theorem dX12_set_57 : decode cX12_set 57 = .ok (.goto (-31), 3) := by decide +kernel
theorem dX12_set_60 : decode cX12_set 60 = .ok (.aload_n 0, 1) := by decide +kernel
theorem dX12_set_61 : decode cX12_set 61 = .ok (.getfield 72, 3) := by decide +kernel
theorem dX12_set_64 : decode cX12_set 64 = .ok (.iload_n 1, 1) := by decide +kernel
theorem dX12_set_65 : decode cX12_set 65 = .ok (.iaload, 1) := by decide +kernel
theorem dX12_set_66 : decode cX12_set 66 = .ok (.istore_n 3, 1) := by decide +kernel
theorem dX12_set_67 : decode cX12_set 67 = .ok (.aload_n 0, 1) := by decide +kernel
theorem dX12_set_68 : decode cX12_set 68 = .ok (.getfield 72, 3) := by decide +kernel
theorem dX12_set_71 : decode cX12_set 71 = .ok (.iload_n 1, 1) := by decide +kernel
theorem dX12_set_72 : decode cX12_set 72 = .ok (.iload_n 2, 1) := by decide +kernel
theorem dX12_set_73 : decode cX12_set 73 = .ok (.iastore, 1) := by decide +kernel
theorem dX12_set_74 : decode cX12_set 74 = .ok (.iload_n 3, 1) := by decide +kernel
theorem dX12_set_75 : decode cX12_set 75 = .ok (.ireturn, 1) := by decide +kernel
theorem dX12_breaks_0 : decode cX12_breaks 0 = .ok (.iload_n 1, 1) := by decide +kernel
theorem dX12_breaks_1 : decode cX12_breaks 1 = .ok (.invokestatic 278, 3) := by decide +kernel
theorem dX12_breaks_4 : decode cX12_breaks 4 = .ok (.ifCond .eq 17, 3) := by decide +kernel
theorem dX12_breaks_7 : decode cX12_breaks 7 = .ok (.iload_n 2, 1) := by decide +kernel
theorem dX12_breaks_8 : decode cX12_breaks 8 = .ok (.aload_n 0, 1) := by decide +kernel
theorem dX12_breaks_9 : decode cX12_breaks 9 = .ok (.getfield 281, 3) := by decide +kernel
theorem dX12_breaks_12 : decode cX12_breaks 12 = .ok (.sipush 1699, 3) := by decide +kernel
theorem dX12_breaks_15 : decode cX12_breaks 15 = .ok (.invokestatic 230, 3) := by decide +kernel
theorem dX12_breaks_18 : decode cX12_breaks 18 = .ok (.ifCond .ne 5, 3) := by decide +kernel
theorem dX12_breaks_21 : decode cX12_breaks 21 = .ok (.iconst (-1), 1) := by decide +kernel
theorem dX12_breaks_22 : decode cX12_breaks 22 = .ok (.ireturn, 1) := by decide +kernel
theorem dX12_breaks_23 : decode cX12_breaks 23 = .ok (.aload_n 0, 1) := by decide +kernel
theorem dX12_breaks_24 : decode cX12_breaks 24 = .ok (.getfield 75, 3) := by decide +kernel
theorem dX12_breaks_27 : decode cX12_breaks 27 = .ok (.iload_n 1, 1) := by decide +kernel
theorem dX12_breaks_28 : decode cX12_breaks 28 = .ok (.iload_n 2, 1) := by decide +kernel
theorem dX12_breaks_29 : decode cX12_breaks 29 = .ok (.iastore, 1) := by decide +kernel
theorem dX12_breaks_30 : decode cX12_breaks 30 = .ok (.iconst 1, 1) := by decide +kernel
theorem dX12_breaks_31 : decode cX12_breaks 31 = .ok (.ireturn, 1) := by decide +kernel
theorem dX12_yard_0 : decode cX12_yard 0 = .ok (.aload_n 0, 1) := by decide +kernel
theorem dX12_yard_1 : decode cX12_yard 1 = .ok (.iload_n 1, 1) := by decide +kernel
theorem dX12_yard_2 : decode cX12_yard 2 = .ok (.invokevirtual 268, 3) := by decide +kernel
theorem dX12_yard_5 : decode cX12_yard 5 = .ok (.ifCond .eq 13, 3) := by decide +kernel
theorem dX12_yard_8 : decode cX12_yard 8 = .ok (.iload_n 2, 1) := by decide +kernel
theorem dX12_yard_9 : decode cX12_yard 9 = .ok (.bipush (-2), 2) := by decide +kernel
theorem dX12_yard_11 : decode cX12_yard 11 = .ok (.iconst 2, 1) := by decide +kernel
theorem dX12_yard_12 : decode cX12_yard 12 = .ok (.invokestatic 230, 3) := by decide +kernel
theorem dX12_yard_15 : decode cX12_yard 15 = .ok (.ifCond .ne 5, 3) := by decide +kernel
theorem dX12_yard_18 : decode cX12_yard 18 = .ok (.iconst (-1), 1) := by decide +kernel
theorem dX12_yard_19 : decode cX12_yard 19 = .ok (.ireturn, 1) := by decide +kernel
theorem dX12_yard_20 : decode cX12_yard 20 = .ok (.aload_n 0, 1) := by decide +kernel
theorem dX12_yard_21 : decode cX12_yard 21 = .ok (.getfield 38, 3) := by decide +kernel
theorem dX12_yard_24 : decode cX12_yard 24 = .ok (.iload_n 1, 1) := by decide +kernel
theorem dX12_yard_25 : decode cX12_yard 25 = .ok (.iaload, 1) := by decide +kernel
theorem dX12_yard_26 : decode cX12_yard 26 = .ok (.ifCond .le 6, 3) := by decide +kernel
theorem dX12_yard_29 : decode cX12_yard 29 = .ok (.bipush (-2), 2) := by decide +kernel
theorem dX12_yard_31 : decode cX12_yard 31 = .ok (.ireturn, 1) := by decide +kernel
theorem dX12_yard_32 : decode cX12_yard 32 = .ok (.aload_n 0, 1) := by decide +kernel
theorem dX12_yard_33 : decode cX12_yard 33 = .ok (.getfield 29, 3) := by decide +kernel
theorem dX12_yard_36 : decode cX12_yard 36 = .ok (.iload_n 1, 1) := by decide +kernel
theorem dX12_yard_37 : decode cX12_yard 37 = .ok (.iaload, 1) := by decide +kernel
theorem dX12_yard_38 : decode cX12_yard 38 = .ok (.bipush 60, 2) := by decide +kernel
theorem dX12_yard_40 : decode cX12_yard 40 = .ok (.if_icmp .ne 6, 3) := by decide +kernel
theorem dX12_yard_43 : decode cX12_yard 43 = .ok (.bipush (-3), 2) := by decide +kernel
theorem dX12_yard_45 : decode cX12_yard 45 = .ok (.ireturn, 1) := by decide +kernel
theorem dX12_yard_46 : decode cX12_yard 46 = .ok (.aload_n 0, 1) := by decide +kernel
theorem dX12_yard_47 : decode cX12_yard 47 = .ok (.getfield 29, 3) := by decide +kernel
theorem dX12_yard_50 : decode cX12_yard 50 = .ok (.iload_n 1, 1) := by decide +kernel
theorem dX12_yard_51 : decode cX12_yard 51 = .ok (.dup2, 1) := by decide +kernel
theorem dX12_yard_52 : decode cX12_yard 52 = .ok (.iaload, 1) := by decide +kernel
theorem dX12_yard_53 : decode cX12_yard 53 = .ok (.iconst 1, 1) := by decide +kernel
theorem dX12_yard_54 : decode cX12_yard 54 = .ok (.iadd, 1) := by decide +kernel
theorem dX12_yard_55 : decode cX12_yard 55 = .ok (.iastore, 1) := by decide +kernel
theorem dX12_yard_56 : decode cX12_yard 56 = .ok (.aload_n 0, 1) := by decide +kernel
theorem dX12_yard_57 : decode cX12_yard 57 = .ok (.getfield 41, 3) := by decide +kernel
theorem dX12_yard_60 : decode cX12_yard 60 = .ok (.bipush 61, 2) := by decide +kernel
theorem dX12_yard_62 : decode cX12_yard 62 = .ok (.iload_n 1, 1) := by decide +kernel
theorem dX12_yard_63 : decode cX12_yard 63 = .ok (.imul, 1) := by decide +kernel
theorem dX12_yard_64 : decode cX12_yard 64 = .ok (.aload_n 0, 1) := by decide +kernel
theorem dX12_yard_65 : decode cX12_yard 65 = .ok (.getfield 29, 3) := by decide +kernel
theorem dX12_yard_68 : decode cX12_yard 68 = .ok (.iload_n 1, 1) := by decide +kernel
theorem dX12_yard_69 : decode cX12_yard 69 = .ok (.iaload, 1) := by decide +kernel
theorem dX12_yard_70 : decode cX12_yard 70 = .ok (.iadd, 1) := by decide +kernel
theorem dX12_yard_71 : decode cX12_yard 71 = .ok (.iload_n 2, 1) := by decide +kernel
theorem dX12_yard_72 : decode cX12_yard 72 = .ok (.iastore, 1) := by decide +kernel
theorem dX12_yard_73 : decode cX12_yard 73 = .ok (.aload_n 0, 1) := by decide +kernel
theorem dX12_yard_74 : decode cX12_yard 74 = .ok (.getfield 29, 3) := by decide +kernel
theorem dX12_yard_77 : decode cX12_yard 77 = .ok (.iload_n 1, 1) := by decide +kernel
theorem dX12_yard_78 : decode cX12_yard 78 = .ok (.iaload, 1) := by decide +kernel
theorem dX12_yard_79 : decode cX12_yard 79 = .ok (.ireturn, 1) := by decide +kernel
theorem dX12_met_0 : decode cX12_met 0 = .ok (.aload_n 0, 1) := by decide +kernel
theorem dX12_met_1 : decode cX12_met 1 = .ok (.iload_n 1, 1) := by decide +kernel
theorem dX12_met_2 : decode cX12_met 2 = .ok (.invokevirtual 268, 3) := by decide +kernel
theorem dX12_met_5 : decode cX12_met 5 = .ok (.ifCond .eq 31, 3) := by decide +kernel
theorem dX12_met_8 : decode cX12_met 8 = .ok (.iload_n 2, 1) := by decide +kernel
theorem dX12_met_9 : decode cX12_met 9 = .ok (.iconst 1, 1) := by decide +kernel
theorem dX12_met_10 : decode cX12_met 10 = .ok (.aload_n 0, 1) := by decide +kernel
theorem dX12_met_11 : decode cX12_met 11 = .ok (.getfield 32, 3) := by decide +kernel
theorem dX12_met_14 : decode cX12_met 14 = .ok (.iload_n 1, 1) := by decide +kernel
theorem dX12_met_15 : decode cX12_met 15 = .ok (.iaload, 1) := by decide +kernel
theorem dX12_met_16 : decode cX12_met 16 = .ok (.invokestatic 230, 3) := by decide +kernel
theorem dX12_met_19 : decode cX12_met 19 = .ok (.ifCond .eq 17, 3) := by decide +kernel
theorem dX12_met_22 : decode cX12_met 22 = .ok (.aload_n 0, 1) := by decide +kernel
theorem dX12_met_23 : decode cX12_met 23 = .ok (.getfield 44, 3) := by decide +kernel
theorem dX12_met_26 : decode cX12_met 26 = .ok (.bipush 61, 2) := by decide +kernel
theorem dX12_met_28 : decode cX12_met 28 = .ok (.iload_n 1, 1) := by decide +kernel
theorem dX12_met_29 : decode cX12_met 29 = .ok (.imul, 1) := by decide +kernel
theorem dX12_met_30 : decode cX12_met 30 = .ok (.iload_n 2, 1) := by decide +kernel
theorem dX12_met_31 : decode cX12_met 31 = .ok (.iadd, 1) := by decide +kernel
theorem dX12_met_32 : decode cX12_met 32 = .ok (.iaload, 1) := by decide +kernel
theorem dX12_met_33 : decode cX12_met 33 = .ok (.goto 4, 3) := by decide +kernel
theorem dX12_met_36 : decode cX12_met 36 = .ok (.iconst (-1), 1) := by decide +kernel
theorem dX12_met_37 : decode cX12_met 37 = .ok (.ireturn, 1) := by decide +kernel
theorem dX12_firstThrough_0 : decode cX12_firstThrough 0 = .ok (.sipush 1700, 3) := by decide +kernel
theorem dX12_firstThrough_3 : decode cX12_firstThrough 3 = .ok (.istore_n 1, 1) := by decide +kernel
theorem dX12_firstThrough_4 : decode cX12_firstThrough 4 = .ok (.iconst 0, 1) := by decide +kernel
theorem dX12_firstThrough_5 : decode cX12_firstThrough 5 = .ok (.istore_n 2, 1) := by decide +kernel
theorem dX12_firstThrough_6 : decode cX12_firstThrough 6 = .ok (.iload_n 2, 1) := by decide +kernel
theorem dX12_firstThrough_7 : decode cX12_firstThrough 7 = .ok (.aload_n 0, 1) := by decide +kernel
theorem dX12_firstThrough_8 : decode cX12_firstThrough 8 = .ok (.getfield 242, 3) := by decide +kernel
theorem dX12_firstThrough_11 : decode cX12_firstThrough 11 = .ok (.if_icmp .ge 39, 3) := by decide +kernel
theorem dX12_firstThrough_14 : decode cX12_firstThrough 14 = .ok (.aload_n 0, 1) := by decide +kernel
theorem dX12_firstThrough_15 : decode cX12_firstThrough 15 = .ok (.getfield 38, 3) := by decide +kernel
theorem dX12_firstThrough_18 : decode cX12_firstThrough 18 = .ok (.iload_n 2, 1) := by decide +kernel
theorem dX12_firstThrough_19 : decode cX12_firstThrough 19 = .ok (.iaload, 1) := by decide +kernel
theorem dX12_firstThrough_20 : decode cX12_firstThrough 20 = .ok (.ifCond .le 24, 3) := by decide +kernel
theorem dX12_firstThrough_23 : decode cX12_firstThrough 23 = .ok (.aload_n 0, 1) := by decide +kernel
theorem dX12_firstThrough_24 : decode cX12_firstThrough 24 = .ok (.getfield 38, 3) := by decide +kernel
theorem dX12_firstThrough_27 : decode cX12_firstThrough 27 = .ok (.iload_n 2, 1) := by decide +kernel
theorem dX12_firstThrough_28 : decode cX12_firstThrough 28 = .ok (.iaload, 1) := by decide +kernel
theorem dX12_firstThrough_29 : decode cX12_firstThrough 29 = .ok (.iconst 1, 1) := by decide +kernel
theorem dX12_firstThrough_30 : decode cX12_firstThrough 30 = .ok (.isub, 1) := by decide +kernel
theorem dX12_firstThrough_31 : decode cX12_firstThrough 31 = .ok (.iload_n 1, 1) := by decide +kernel
theorem dX12_firstThrough_32 : decode cX12_firstThrough 32 = .ok (.if_icmp .ge 12, 3) := by decide +kernel
theorem dX12_firstThrough_35 : decode cX12_firstThrough 35 = .ok (.aload_n 0, 1) := by decide +kernel
theorem dX12_firstThrough_36 : decode cX12_firstThrough 36 = .ok (.getfield 38, 3) := by decide +kernel
theorem dX12_firstThrough_39 : decode cX12_firstThrough 39 = .ok (.iload_n 2, 1) := by decide +kernel
theorem dX12_firstThrough_40 : decode cX12_firstThrough 40 = .ok (.iaload, 1) := by decide +kernel
theorem dX12_firstThrough_41 : decode cX12_firstThrough 41 = .ok (.iconst 1, 1) := by decide +kernel
theorem dX12_firstThrough_42 : decode cX12_firstThrough 42 = .ok (.isub, 1) := by decide +kernel
theorem dX12_firstThrough_43 : decode cX12_firstThrough 43 = .ok (.istore_n 1, 1) := by decide +kernel
theorem dX12_firstThrough_44 : decode cX12_firstThrough 44 = .ok (.iinc 2 1, 3) := by decide +kernel
theorem dX12_firstThrough_47 : decode cX12_firstThrough 47 = .ok (.goto (-41), 3) := by decide +kernel
theorem dX12_firstThrough_50 : decode cX12_firstThrough 50 = .ok (.iload_n 1, 1) := by decide +kernel
theorem dX12_firstThrough_51 : decode cX12_firstThrough 51 = .ok (.ireturn, 1) := by decide +kernel
theorem dX12_bore_0 : decode cX12_bore 0 = .ok (.aload_n 0, 1) := by decide +kernel
theorem dX12_bore_1 : decode cX12_bore 1 = .ok (.getfield 32, 3) := by decide +kernel
theorem dX12_bore_4 : decode cX12_bore 4 = .ok (.iload_n 1, 1) := by decide +kernel
theorem dX12_bore_5 : decode cX12_bore 5 = .ok (.iaload, 1) := by decide +kernel
theorem dX12_bore_6 : decode cX12_bore 6 = .ok (.aload_n 0, 1) := by decide +kernel
theorem dX12_bore_7 : decode cX12_bore 7 = .ok (.getfield 29, 3) := by decide +kernel
theorem dX12_bore_10 : decode cX12_bore 10 = .ok (.iload_n 1, 1) := by decide +kernel
theorem dX12_bore_11 : decode cX12_bore 11 = .ok (.iaload, 1) := by decide +kernel
theorem dX12_bore_12 : decode cX12_bore 12 = .ok (.if_icmp .ge 214, 3) := by decide +kernel
theorem dX12_bore_15 : decode cX12_bore 15 = .ok (.aload_n 0, 1) := by decide +kernel
theorem dX12_bore_16 : decode cX12_bore 16 = .ok (.getfield 38, 3) := by decide +kernel
theorem dX12_bore_19 : decode cX12_bore 19 = .ok (.iload_n 1, 1) := by decide +kernel
theorem dX12_bore_20 : decode cX12_bore 20 = .ok (.iaload, 1) := by decide +kernel
theorem dX12_bore_21 : decode cX12_bore 21 = .ok (.ifCond .ne 205, 3) := by decide +kernel
theorem dX12_bore_24 : decode cX12_bore 24 = .ok (.aload_n 0, 1) := by decide +kernel
theorem dX12_bore_25 : decode cX12_bore 25 = .ok (.getfield 32, 3) := by decide +kernel
theorem dX12_bore_28 : decode cX12_bore 28 = .ok (.iload_n 1, 1) := by decide +kernel
theorem dX12_bore_29 : decode cX12_bore 29 = .ok (.iaload, 1) := by decide +kernel
theorem dX12_bore_30 : decode cX12_bore 30 = .ok (.iconst 1, 1) := by decide +kernel
theorem dX12_bore_31 : decode cX12_bore 31 = .ok (.iadd, 1) := by decide +kernel
theorem dX12_bore_32 : decode cX12_bore 32 = .ok (.istore_n 3, 1) := by decide +kernel
theorem dX12_bore_33 : decode cX12_bore 33 = .ok (.aload_n 0, 1) := by decide +kernel
theorem dX12_bore_34 : decode cX12_bore 34 = .ok (.getfield 26, 3) := by decide +kernel
theorem dX12_bore_37 : decode cX12_bore 37 = .ok (.iload_n 1, 1) := by decide +kernel
theorem dX12_bore_38 : decode cX12_bore 38 = .ok (.iaload, 1) := by decide +kernel
theorem dX12_bore_39 : decode cX12_bore 39 = .ok (.aload_n 0, 1) := by decide +kernel
theorem dX12_bore_40 : decode cX12_bore 40 = .ok (.getfield 41, 3) := by decide +kernel
theorem dX12_bore_43 : decode cX12_bore 43 = .ok (.bipush 61, 2) := by decide +kernel
theorem dX12_bore_45 : decode cX12_bore 45 = .ok (.iload_n 1, 1) := by decide +kernel
theorem dX12_bore_46 : decode cX12_bore 46 = .ok (.imul, 1) := by decide +kernel
theorem dX12_bore_47 : decode cX12_bore 47 = .ok (.iload_n 3, 1) := by decide +kernel
theorem dX12_bore_48 : decode cX12_bore 48 = .ok (.iadd, 1) := by decide +kernel
theorem dX12_bore_49 : decode cX12_bore 49 = .ok (.iaload, 1) := by decide +kernel
theorem dX12_bore_50 : decode cX12_bore 50 = .ok (.iadd, 1) := by decide +kernel
theorem dX12_bore_51 : decode cX12_bore 51 = .ok (.iconst 0, 1) := by decide +kernel
theorem dX12_bore_52 : decode cX12_bore 52 = .ok (.bipush 31, 2) := by decide +kernel
theorem dX12_bore_54 : decode cX12_bore 54 = .ok (.invokestatic 284, 3) := by decide +kernel
theorem dX12_bore_57 : decode cX12_bore 57 = .ok (.istore 4, 2) := by decide +kernel
theorem dX12_bore_59 : decode cX12_bore 59 = .ok (.bipush 61, 2) := by decide +kernel
theorem dX12_bore_61 : decode cX12_bore 61 = .ok (.iload 4, 2) := by decide +kernel
theorem dX12_bore_63 : decode cX12_bore 63 = .ok (.imul, 1) := by decide +kernel
theorem dX12_bore_64 : decode cX12_bore 64 = .ok (.iload_n 3, 1) := by decide +kernel
theorem dX12_bore_65 : decode cX12_bore 65 = .ok (.iadd, 1) := by decide +kernel
theorem dX12_bore_66 : decode cX12_bore 66 = .ok (.istore 5, 2) := by decide +kernel
theorem dX12_bore_68 : decode cX12_bore 68 = .ok (.aload_n 0, 1) := by decide +kernel
theorem dX12_bore_69 : decode cX12_bore 69 = .ok (.getfield 13, 3) := by decide +kernel
theorem dX12_bore_72 : decode cX12_bore 72 = .ok (.iload 5, 2) := by decide +kernel
theorem dX12_bore_74 : decode cX12_bore 74 = .ok (.baload, 1) := by decide +kernel
theorem dX12_bore_75 : decode cX12_bore 75 = .ok (.ifCond .eq 7, 3) := by decide +kernel
theorem dX12_bore_78 : decode cX12_bore 78 = .ok (.iconst 0, 1) := by decide +kernel
theorem dX12_bore_79 : decode cX12_bore 79 = .ok (.goto 14, 3) := by decide +kernel
theorem dX12_bore_82 : decode cX12_bore 82 = .ok (.iload_n 2, 1) := by decide +kernel
theorem dX12_bore_83 : decode cX12_bore 83 = .ok (.iconst 3, 1) := by decide +kernel
theorem dX12_bore_84 : decode cX12_bore 84 = .ok (.aload_n 0, 1) := by decide +kernel
theorem dX12_bore_85 : decode cX12_bore 85 = .ok (.getfield 7, 3) := by decide +kernel
theorem dX12_bore_88 : decode cX12_bore 88 = .ok (.iload 5, 2) := by decide +kernel
theorem dX12_bore_90 : decode cX12_bore 90 = .ok (.iaload, 1) := by decide +kernel
theorem dX12_bore_91 : decode cX12_bore 91 = .ok (.iadd, 1) := by decide +kernel
theorem dX12_bore_92 : decode cX12_bore 92 = .ok (.imul, 1) := by decide +kernel
theorem dX12_bore_93 : decode cX12_bore 93 = .ok (.istore 6, 2) := by decide +kernel
theorem dX12_bore_95 : decode cX12_bore 95 = .ok (.aload_n 0, 1) := by decide +kernel
theorem dX12_bore_96 : decode cX12_bore 96 = .ok (.getfield 35, 3) := by decide +kernel
theorem dX12_bore_99 : decode cX12_bore 99 = .ok (.iload_n 1, 1) := by decide +kernel
theorem dX12_bore_100 : decode cX12_bore 100 = .ok (.iaload, 1) := by decide +kernel
theorem dX12_bore_101 : decode cX12_bore 101 = .ok (.iload 6, 2) := by decide +kernel
theorem dX12_bore_103 : decode cX12_bore 103 = .ok (.if_icmp .ge 4, 3) := by decide +kernel
theorem dX12_bore_106 : decode cX12_bore 106 = .ok (.return_, 1) := by decide +kernel
theorem dX12_bore_107 : decode cX12_bore 107 = .ok (.aload_n 0, 1) := by decide +kernel
theorem dX12_bore_108 : decode cX12_bore 108 = .ok (.getfield 35, 3) := by decide +kernel
theorem dX12_bore_111 : decode cX12_bore 111 = .ok (.iload_n 1, 1) := by decide +kernel
theorem dX12_bore_112 : decode cX12_bore 112 = .ok (.dup2, 1) := by decide +kernel
theorem dX12_bore_113 : decode cX12_bore 113 = .ok (.iaload, 1) := by decide +kernel
theorem dX12_bore_114 : decode cX12_bore 114 = .ok (.iload 6, 2) := by decide +kernel
theorem dX12_bore_116 : decode cX12_bore 116 = .ok (.isub, 1) := by decide +kernel
theorem dX12_bore_117 : decode cX12_bore 117 = .ok (.iastore, 1) := by decide +kernel
theorem dX12_bore_118 : decode cX12_bore 118 = .ok (.aload_n 0, 1) := by decide +kernel
theorem dX12_bore_119 : decode cX12_bore 119 = .ok (.getfield 32, 3) := by decide +kernel
theorem dX12_bore_122 : decode cX12_bore 122 = .ok (.iload_n 1, 1) := by decide +kernel
theorem dX12_bore_123 : decode cX12_bore 123 = .ok (.iload_n 3, 1) := by decide +kernel
theorem dX12_bore_124 : decode cX12_bore 124 = .ok (.iastore, 1) := by decide +kernel
theorem dX12_bore_125 : decode cX12_bore 125 = .ok (.aload_n 0, 1) := by decide +kernel
theorem dX12_bore_126 : decode cX12_bore 126 = .ok (.getfield 26, 3) := by decide +kernel
theorem dX12_bore_129 : decode cX12_bore 129 = .ok (.iload_n 1, 1) := by decide +kernel
theorem dX12_bore_130 : decode cX12_bore 130 = .ok (.iload 4, 2) := by decide +kernel
theorem dX12_bore_132 : decode cX12_bore 132 = .ok (.iastore, 1) := by decide +kernel
theorem dX12_bore_133 : decode cX12_bore 133 = .ok (.aload_n 0, 1) := by decide +kernel
theorem dX12_bore_134 : decode cX12_bore 134 = .ok (.getfield 65, 3) := by decide +kernel
theorem dX12_bore_137 : decode cX12_bore 137 = .ok (.ifCond .lt 31, 3) := by decide +kernel
theorem dX12_bore_140 : decode cX12_bore 140 = .ok (.iload_n 3, 1) := by decide +kernel
theorem dX12_bore_141 : decode cX12_bore 141 = .ok (.aload_n 0, 1) := by decide +kernel
theorem dX12_bore_142 : decode cX12_bore 142 = .ok (.getfield 264, 3) := by decide +kernel
theorem dX12_bore_145 : decode cX12_bore 145 = .ok (.if_icmp .ne 23, 3) := by decide +kernel
theorem dX12_bore_148 : decode cX12_bore 148 = .ok (.iload 4, 2) := by decide +kernel
theorem dX12_bore_150 : decode cX12_bore 150 = .ok (.aload_n 0, 1) := by decide +kernel
theorem dX12_bore_151 : decode cX12_bore 151 = .ok (.getfield 258, 3) := by decide +kernel
theorem dX12_bore_154 : decode cX12_bore 154 = .ok (.aload_n 0, 1) := by decide +kernel
theorem dX12_bore_155 : decode cX12_bore 155 = .ok (.getfield 261, 3) := by decide +kernel
theorem dX12_bore_158 : decode cX12_bore 158 = .ok (.invokestatic 230, 3) := by decide +kernel
theorem dX12_bore_161 : decode cX12_bore 161 = .ok (.ifCond .eq 7, 3) := by decide +kernel
theorem dX12_bore_164 : decode cX12_bore 164 = .ok (.iconst 1, 1) := by decide +kernel
theorem dX12_bore_165 : decode cX12_bore 165 = .ok (.goto 4, 3) := by decide +kernel
theorem dX12_bore_168 : decode cX12_bore 168 = .ok (.iconst 0, 1) := by decide +kernel
theorem dX12_bore_169 : decode cX12_bore 169 = .ok (.istore 7, 2) := by decide +kernel
theorem dX12_bore_171 : decode cX12_bore 171 = .ok (.aload_n 0, 1) := by decide +kernel
theorem dX12_bore_172 : decode cX12_bore 172 = .ok (.getfield 44, 3) := by decide +kernel
theorem dX12_bore_175 : decode cX12_bore 175 = .ok (.bipush 61, 2) := by decide +kernel
theorem dX12_bore_177 : decode cX12_bore 177 = .ok (.iload_n 1, 1) := by decide +kernel
theorem dX12_bore_178 : decode cX12_bore 178 = .ok (.imul, 1) := by decide +kernel
theorem dX12_bore_179 : decode cX12_bore 179 = .ok (.iload_n 3, 1) := by decide +kernel
theorem dX12_bore_180 : decode cX12_bore 180 = .ok (.iadd, 1) := by decide +kernel
theorem dX12_bore_181 : decode cX12_bore 181 = .ok (.iload 7, 2) := by decide +kernel
theorem dX12_bore_183 : decode cX12_bore 183 = .ok (.ifCond .eq 7, 3) := by decide +kernel
theorem dX12_bore_186 : decode cX12_bore 186 = .ok (.iconst 2, 1) := by decide +kernel
theorem dX12_bore_187 : decode cX12_bore 187 = .ok (.goto 18, 3) := by decide +kernel
theorem dX12_bore_190 : decode cX12_bore 190 = .ok (.aload_n 0, 1) := by decide +kernel
theorem dX12_bore_191 : decode cX12_bore 191 = .ok (.getfield 13, 3) := by decide +kernel
theorem dX12_bore_194 : decode cX12_bore 194 = .ok (.iload 5, 2) := by decide +kernel
theorem dX12_bore_196 : decode cX12_bore 196 = .ok (.baload, 1) := by decide +kernel
theorem dX12_bore_197 : decode cX12_bore 197 = .ok (.ifCond .eq 7, 3) := by decide +kernel
theorem dX12_bore_200 : decode cX12_bore 200 = .ok (.iconst 1, 1) := by decide +kernel
theorem dX12_bore_201 : decode cX12_bore 201 = .ok (.goto 4, 3) := by decide +kernel
theorem dX12_bore_204 : decode cX12_bore 204 = .ok (.iconst 0, 1) := by decide +kernel
theorem dX12_bore_205 : decode cX12_bore 205 = .ok (.iastore, 1) := by decide +kernel
theorem dX12_bore_206 : decode cX12_bore 206 = .ok (.iload 7, 2) := by decide +kernel
theorem dX12_bore_208 : decode cX12_bore 208 = .ok (.ifCond .eq 15, 3) := by decide +kernel
theorem dX12_bore_211 : decode cX12_bore 211 = .ok (.aload_n 0, 1) := by decide +kernel
theorem dX12_bore_212 : decode cX12_bore 212 = .ok (.getfield 38, 3) := by decide +kernel
theorem dX12_bore_215 : decode cX12_bore 215 = .ok (.iload_n 1, 1) := by decide +kernel
theorem dX12_bore_216 : decode cX12_bore 216 = .ok (.aload_n 0, 1) := by decide +kernel
theorem dX12_bore_217 : decode cX12_bore 217 = .ok (.getfield 281, 3) := by decide +kernel
theorem dX12_bore_220 : decode cX12_bore 220 = .ok (.iconst 1, 1) := by decide +kernel
theorem dX12_bore_221 : decode cX12_bore 221 = .ok (.iadd, 1) := by decide +kernel
theorem dX12_bore_222 : decode cX12_bore 222 = .ok (.iastore, 1) := by decide +kernel
theorem dX12_bore_223 : decode cX12_bore 223 = .ok (.goto (-223), 3) := by decide +kernel
theorem dX12_bore_226 : decode cX12_bore 226 = .ok (.return_, 1) := by decide +kernel
theorem dX12_spread_0 : decode cX12_spread 0 = .ok (.iload_n 1, 1) := by decide +kernel
theorem dX12_spread_1 : decode cX12_spread 1 = .ok (.iconst 0, 1) := by decide +kernel
theorem dX12_spread_2 : decode cX12_spread 2 = .ok (.bipush 8, 2) := by decide +kernel
theorem dX12_spread_4 : decode cX12_spread 4 = .ok (.invokestatic 230, 3) := by decide +kernel
theorem dX12_spread_7 : decode cX12_spread 7 = .ok (.ifCond .ne 5, 3) := by decide +kernel
theorem dX12_spread_10 : decode cX12_spread 10 = .ok (.iconst (-1), 1) := by decide +kernel
theorem dX12_spread_11 : decode cX12_spread 11 = .ok (.ireturn, 1) := by decide +kernel
theorem dX12_spread_12 : decode cX12_spread 12 = .ok (.aload_n 0, 1) := by decide +kernel
theorem dX12_spread_13 : decode cX12_spread 13 = .ok (.getfield 78, 3) := by decide +kernel
theorem dX12_spread_16 : decode cX12_spread 16 = .ok (.istore_n 2, 1) := by decide +kernel
theorem dX12_spread_17 : decode cX12_spread 17 = .ok (.aload_n 0, 1) := by decide +kernel
theorem dX12_spread_18 : decode cX12_spread 18 = .ok (.iload_n 1, 1) := by decide +kernel
theorem dX12_spread_19 : decode cX12_spread 19 = .ok (.putfield 78, 3) := by decide +kernel
