theorem dX5_init_0 : decode cX5_init 0 = .ok (.aload_n 0, 1) := by decide +kernel
theorem dX5_init_1 : decode cX5_init 1 = .ok (.invokespecial 3, 3) := by decide +kernel
theorem dX5_init_4 : decode cX5_init 4 = .ok (.aload_n 0, 1) := by decide +kernel
theorem dX5_init_5 : decode cX5_init 5 = .ok (.sipush 1920, 3) := by decide +kernel
theorem dX5_init_8 : decode cX5_init 8 = .ok (.newarray .int, 2) := by decide +kernel
theorem dX5_init_10 : decode cX5_init 10 = .ok (.putfield 9, 3) := by decide +kernel
theorem dX5_init_13 : decode cX5_init 13 = .ok (.aload_n 0, 1) := by decide +kernel
theorem dX5_init_14 : decode cX5_init 14 = .ok (.sipush 1920, 3) := by decide +kernel
theorem dX5_init_17 : decode cX5_init 17 = .ok (.newarray .int, 2) := by decide +kernel
theorem dX5_init_19 : decode cX5_init 19 = .ok (.putfield 15, 3) := by decide +kernel
theorem dX5_init_22 : decode cX5_init 22 = .ok (.aload_n 0, 1) := by decide +kernel
theorem dX5_init_23 : decode cX5_init 23 = .ok (.bipush 60, 2) := by decide +kernel
theorem dX5_init_25 : decode cX5_init 25 = .ok (.newarray .int, 2) := by decide +kernel
theorem dX5_init_27 : decode cX5_init 27 = .ok (.putfield 18, 3) := by decide +kernel
theorem dX5_init_30 : decode cX5_init 30 = .ok (.aload_n 0, 1) := by decide +kernel
theorem dX5_init_31 : decode cX5_init 31 = .ok (.bipush 60, 2) := by decide +kernel
theorem dX5_init_33 : decode cX5_init 33 = .ok (.newarray .int, 2) := by decide +kernel
theorem dX5_init_35 : decode cX5_init 35 = .ok (.putfield 21, 3) := by decide +kernel
theorem dX5_init_38 : decode cX5_init 38 = .ok (.aload_n 0, 1) := by decide +kernel
theorem dX5_init_39 : decode cX5_init 39 = .ok (.getfield 9, 3) := by decide +kernel
theorem dX5_init_42 : decode cX5_init 42 = .ok (.iconst 3, 1) := by decide +kernel
theorem dX5_init_43 : decode cX5_init 43 = .ok (.invokestatic 24, 3) := by decide +kernel
theorem dX5_init_46 : decode cX5_init 46 = .ok (.return_, 1) := by decide +kernel
theorem dX5_moveTold_0 : decode cX5_moveTold 0 = .ok (.aload_n 0, 1) := by decide +kernel
theorem dX5_moveTold_1 : decode cX5_moveTold 1 = .ok (.getfield 30, 3) := by decide +kernel
theorem dX5_moveTold_4 : decode cX5_moveTold 4 = .ok (.bipush 60, 2) := by decide +kernel
theorem dX5_moveTold_6 : decode cX5_moveTold 6 = .ok (.if_icmp .lt 6, 3) := by decide +kernel
theorem dX5_moveTold_9 : decode cX5_moveTold 9 = .ok (.bipush (-3), 2) := by decide +kernel
theorem dX5_moveTold_11 : decode cX5_moveTold 11 = .ok (.ireturn, 1) := by decide +kernel
theorem dX5_moveTold_12 : decode cX5_moveTold 12 = .ok (.aload_n 0, 1) := by decide +kernel
theorem dX5_moveTold_13 : decode cX5_moveTold 13 = .ok (.getfield 18, 3) := by decide +kernel
theorem dX5_moveTold_16 : decode cX5_moveTold 16 = .ok (.aload_n 0, 1) := by decide +kernel
theorem dX5_moveTold_17 : decode cX5_moveTold 17 = .ok (.getfield 30, 3) := by decide +kernel
theorem dX5_moveTold_20 : decode cX5_moveTold 20 = .ok (.iload_n 1, 1) := by decide +kernel
theorem dX5_moveTold_21 : decode cX5_moveTold 21 = .ok (.iastore, 1) := by decide +kernel
theorem dX5_moveTold_22 : decode cX5_moveTold 22 = .ok (.aload_n 0, 1) := by decide +kernel
theorem dX5_moveTold_23 : decode cX5_moveTold 23 = .ok (.getfield 21, 3) := by decide +kernel
theorem dX5_moveTold_26 : decode cX5_moveTold 26 = .ok (.aload_n 0, 1) := by decide +kernel
theorem dX5_moveTold_27 : decode cX5_moveTold 27 = .ok (.getfield 30, 3) := by decide +kernel
theorem dX5_moveTold_30 : decode cX5_moveTold 30 = .ok (.iload_n 2, 1) := by decide +kernel
theorem dX5_moveTold_31 : decode cX5_moveTold 31 = .ok (.iastore, 1) := by decide +kernel
theorem dX5_moveTold_32 : decode cX5_moveTold 32 = .ok (.aload_n 0, 1) := by decide +kernel
theorem dX5_moveTold_33 : decode cX5_moveTold 33 = .ok (.dup, 1) := by decide +kernel
theorem dX5_moveTold_34 : decode cX5_moveTold 34 = .ok (.getfield 30, 3) := by decide +kernel
theorem dX5_moveTold_37 : decode cX5_moveTold 37 = .ok (.iconst 1, 1) := by decide +kernel
theorem dX5_moveTold_38 : decode cX5_moveTold 38 = .ok (.iadd, 1) := by decide +kernel
theorem dX5_moveTold_39 : decode cX5_moveTold 39 = .ok (.putfield 30, 3) := by decide +kernel
theorem dX5_moveTold_42 : decode cX5_moveTold 42 = .ok (.aload_n 0, 1) := by decide +kernel
theorem dX5_moveTold_43 : decode cX5_moveTold 43 = .ok (.getfield 30, 3) := by decide +kernel
theorem dX5_moveTold_46 : decode cX5_moveTold 46 = .ok (.ireturn, 1) := by decide +kernel
theorem dX6_init_0 : decode cX6_init 0 = .ok (.aload_n 0, 1) := by decide +kernel
theorem dX6_init_1 : decode cX6_init 1 = .ok (.invokespecial 3, 3) := by decide +kernel
theorem dX6_init_4 : decode cX6_init 4 = .ok (.aload_n 0, 1) := by decide +kernel
theorem dX6_init_5 : decode cX6_init 5 = .ok (.bipush 10, 2) := by decide +kernel
theorem dX6_init_7 : decode cX6_init 7 = .ok (.newarray .int, 2) := by decide +kernel
theorem dX6_init_9 : decode cX6_init 9 = .ok (.putfield 11, 3) := by decide +kernel
theorem dX6_init_12 : decode cX6_init 12 = .ok (.aload_n 0, 1) := by decide +kernel
theorem dX6_init_13 : decode cX6_init 13 = .ok (.bipush 10, 2) := by decide +kernel
theorem dX6_init_15 : decode cX6_init 15 = .ok (.newarray .int, 2) := by decide +kernel
theorem dX6_init_17 : decode cX6_init 17 = .ok (.putfield 15, 3) := by decide +kernel
theorem dX6_init_20 : decode cX6_init 20 = .ok (.aload_n 0, 1) := by decide +kernel
theorem dX6_init_21 : decode cX6_init 21 = .ok (.bipush 10, 2) := by decide +kernel
theorem dX6_init_23 : decode cX6_init 23 = .ok (.newarray .int, 2) := by decide +kernel
theorem dX6_init_25 : decode cX6_init 25 = .ok (.putfield 18, 3) := by decide +kernel
theorem dX6_init_28 : decode cX6_init 28 = .ok (.aload_n 0, 1) := by decide +kernel
theorem dX6_init_29 : decode cX6_init 29 = .ok (.sipush 1024, 3) := by decide +kernel
theorem dX6_init_32 : decode cX6_init 32 = .ok (.newarray .int, 2) := by decide +kernel
theorem dX6_init_34 : decode cX6_init 34 = .ok (.putfield 21, 3) := by decide +kernel
theorem dX6_init_37 : decode cX6_init 37 = .ok (.aload_n 0, 1) := by decide +kernel
theorem dX6_init_38 : decode cX6_init 38 = .ok (.sipush 1024, 3) := by decide +kernel
theorem dX6_init_41 : decode cX6_init 41 = .ok (.newarray .int, 2) := by decide +kernel
theorem dX6_init_43 : decode cX6_init 43 = .ok (.putfield 24, 3) := by decide +kernel
theorem dX6_init_46 : decode cX6_init 46 = .ok (.aload_n 0, 1) := by decide +kernel
theorem dX6_init_47 : decode cX6_init 47 = .ok (.bipush 10, 2) := by decide +kernel
theorem dX6_init_49 : decode cX6_init 49 = .ok (.newarray .int, 2) := by decide +kernel
theorem dX6_init_51 : decode cX6_init 51 = .ok (.putfield 27, 3) := by decide +kernel
theorem dX6_init_54 : decode cX6_init 54 = .ok (.aload_n 0, 1) := by decide +kernel
theorem dX6_init_55 : decode cX6_init 55 = .ok (.bipush 6, 2) := by decide +kernel
theorem dX6_init_57 : decode cX6_init 57 = .ok (.newarray .int, 2) := by decide +kernel
theorem dX6_init_59 : decode cX6_init 59 = .ok (.putfield 30, 3) := by decide +kernel
theorem dX6_init_62 : decode cX6_init 62 = .ok (.aload_n 0, 1) := by decide +kernel
theorem dX6_init_63 : decode cX6_init 63 = .ok (.bipush 24, 2) := by decide +kernel
theorem dX6_init_65 : decode cX6_init 65 = .ok (.newarray .int, 2) := by decide +kernel
theorem dX6_init_67 : decode cX6_init 67 = .ok (.putfield 33, 3) := by decide +kernel
theorem dX6_init_70 : decode cX6_init 70 = .ok (.aload_n 0, 1) := by decide +kernel
theorem dX6_init_71 : decode cX6_init 71 = .ok (.bipush 6, 2) := by decide +kernel
theorem dX6_init_73 : decode cX6_init 73 = .ok (.newarray .int, 2) := by decide +kernel
theorem dX6_init_75 : decode cX6_init 75 = .ok (.putfield 36, 3) := by decide +kernel
theorem dX6_init_78 : decode cX6_init 78 = .ok (.aload_n 0, 1) := by decide +kernel
theorem dX6_init_79 : decode cX6_init 79 = .ok (.iconst 2, 1) := by decide +kernel
theorem dX6_init_80 : decode cX6_init 80 = .ok (.newarray .int, 2) := by decide +kernel
theorem dX6_init_82 : decode cX6_init 82 = .ok (.putfield 39, 3) := by decide +kernel
theorem dX6_init_85 : decode cX6_init 85 = .ok (.aload_n 0, 1) := by decide +kernel
theorem dX6_init_86 : decode cX6_init 86 = .ok (.iconst 2, 1) := by decide +kernel
theorem dX6_init_87 : decode cX6_init 87 = .ok (.newarray .int, 2) := by decide +kernel
theorem dX6_init_89 : decode cX6_init 89 = .ok (.putfield 42, 3) := by decide +kernel
theorem dX6_init_92 : decode cX6_init 92 = .ok (.aload_n 0, 1) := by decide +kernel
theorem dX6_init_93 : decode cX6_init 93 = .ok (.getfield 33, 3) := by decide +kernel
theorem dX6_init_96 : decode cX6_init 96 = .ok (.iconst 1, 1) := by decide +kernel
theorem dX6_init_97 : decode cX6_init 97 = .ok (.invokestatic 45, 3) := by decide +kernel
theorem dX6_init_100 : decode cX6_init 100 = .ok (.return_, 1) := by decide +kernel
theorem dX6_needTold_0 : decode cX6_needTold 0 = .ok (.aload_n 0, 1) := by decide +kernel
theorem dX6_needTold_1 : decode cX6_needTold 1 = .ok (.getfield 51, 3) := by decide +kernel
theorem dX6_needTold_4 : decode cX6_needTold 4 = .ok (.bipush 10, 2) := by decide +kernel
theorem dX6_needTold_6 : decode cX6_needTold 6 = .ok (.if_icmp .lt 6, 3) := by decide +kernel
theorem dX6_needTold_9 : decode cX6_needTold 9 = .ok (.bipush (-3), 2) := by decide +kernel
theorem dX6_needTold_11 : decode cX6_needTold 11 = .ok (.ireturn, 1) := by decide +kernel
theorem dX6_needTold_12 : decode cX6_needTold 12 = .ok (.aload_n 0, 1) := by decide +kernel
theorem dX6_needTold_13 : decode cX6_needTold 13 = .ok (.getfield 11, 3) := by decide +kernel
theorem dX6_needTold_16 : decode cX6_needTold 16 = .ok (.aload_n 0, 1) := by decide +kernel
theorem dX6_needTold_17 : decode cX6_needTold 17 = .ok (.getfield 51, 3) := by decide +kernel
theorem dX6_needTold_20 : decode cX6_needTold 20 = .ok (.iload_n 1, 1) := by decide +kernel
theorem dX6_needTold_21 : decode cX6_needTold 21 = .ok (.iastore, 1) := by decide +kernel
theorem dX6_needTold_22 : decode cX6_needTold 22 = .ok (.aload_n 0, 1) := by decide +kernel
theorem dX6_needTold_23 : decode cX6_needTold 23 = .ok (.getfield 15, 3) := by decide +kernel
theorem dX6_needTold_26 : decode cX6_needTold 26 = .ok (.aload_n 0, 1) := by decide +kernel
theorem dX6_needTold_27 : decode cX6_needTold 27 = .ok (.getfield 51, 3) := by decide +kernel
theorem dX6_needTold_30 : decode cX6_needTold 30 = .ok (.iload_n 2, 1) := by decide +kernel
theorem dX6_needTold_31 : decode cX6_needTold 31 = .ok (.iastore, 1) := by decide +kernel
theorem dX6_needTold_32 : decode cX6_needTold 32 = .ok (.aload_n 0, 1) := by decide +kernel
theorem dX6_needTold_33 : decode cX6_needTold 33 = .ok (.getfield 18, 3) := by decide +kernel
theorem dX6_needTold_36 : decode cX6_needTold 36 = .ok (.aload_n 0, 1) := by decide +kernel
theorem dX6_needTold_37 : decode cX6_needTold 37 = .ok (.getfield 51, 3) := by decide +kernel
theorem dX6_needTold_40 : decode cX6_needTold 40 = .ok (.iload_n 3, 1) := by decide +kernel
theorem dX6_needTold_41 : decode cX6_needTold 41 = .ok (.iastore, 1) := by decide +kernel
theorem dX6_needTold_42 : decode cX6_needTold 42 = .ok (.aload_n 0, 1) := by decide +kernel
theorem dX6_needTold_43 : decode cX6_needTold 43 = .ok (.dup, 1) := by decide +kernel
theorem dX6_needTold_44 : decode cX6_needTold 44 = .ok (.getfield 51, 3) := by decide +kernel
theorem dX6_needTold_47 : decode cX6_needTold 47 = .ok (.iconst 1, 1) := by decide +kernel
theorem dX6_needTold_48 : decode cX6_needTold 48 = .ok (.iadd, 1) := by decide +kernel
theorem dX6_needTold_49 : decode cX6_needTold 49 = .ok (.putfield 51, 3) := by decide +kernel
theorem dX6_needTold_52 : decode cX6_needTold 52 = .ok (.aload_n 0, 1) := by decide +kernel
theorem dX6_needTold_53 : decode cX6_needTold 53 = .ok (.getfield 51, 3) := by decide +kernel
theorem dX6_needTold_56 : decode cX6_needTold 56 = .ok (.ireturn, 1) := by decide +kernel
theorem dX6_leastLateness_0 : decode cX6_leastLateness 0 = .ok (.iconst 1, 1) := by decide +kernel
theorem dX6_leastLateness_1 : decode cX6_leastLateness 1 = .ok (.aload_n 0, 1) := by decide +kernel
theorem dX6_leastLateness_2 : decode cX6_leastLateness 2 = .ok (.getfield 51, 3) := by decide +kernel
theorem dX6_leastLateness_5 : decode cX6_leastLateness 5 = .ok (.ishl, 1) := by decide +kernel
theorem dX6_leastLateness_6 : decode cX6_leastLateness 6 = .ok (.iconst 1, 1) := by decide +kernel
theorem dX6_leastLateness_7 : decode cX6_leastLateness 7 = .ok (.isub, 1) := by decide +kernel
theorem dX6_leastLateness_8 : decode cX6_leastLateness 8 = .ok (.istore_n 1, 1) := by decide +kernel
theorem dX6_leastLateness_9 : decode cX6_leastLateness 9 = .ok (.aload_n 0, 1) := by decide +kernel
theorem dX6_leastLateness_10 : decode cX6_leastLateness 10 = .ok (.getfield 24, 3) := by decide +kernel
theorem dX6_leastLateness_13 : decode cX6_leastLateness 13 = .ok (.iconst 0, 1) := by decide +kernel
theorem dX6_leastLateness_14 : decode cX6_leastLateness 14 = .ok (.iconst 0, 1) := by decide +kernel
theorem dX6_leastLateness_15 : decode cX6_leastLateness 15 = .ok (.iastore, 1) := by decide +kernel
theorem dX6_leastLateness_16 : decode cX6_leastLateness 16 = .ok (.iconst 0, 1) := by decide +kernel
theorem dX6_leastLateness_17 : decode cX6_leastLateness 17 = .ok (.istore_n 2, 1) := by decide +kernel
theorem dX6_leastLateness_18 : decode cX6_leastLateness 18 = .ok (.iload_n 2, 1) := by decide +kernel
theorem dX6_leastLateness_19 : decode cX6_leastLateness 19 = .ok (.aload_n 0, 1) := by decide +kernel
theorem dX6_leastLateness_20 : decode cX6_leastLateness 20 = .ok (.getfield 51, 3) := by decide +kernel
theorem dX6_leastLateness_23 : decode cX6_leastLateness 23 = .ok (.if_icmp .ge 47, 3) := by decide +kernel
theorem dX6_leastLateness_26 : decode cX6_leastLateness 26 = .ok (.iconst 0, 1) := by decide +kernel
theorem dX6_leastLateness_27 : decode cX6_leastLateness 27 = .ok (.istore_n 3, 1) := by decide +kernel
theorem dX6_leastLateness_28 : decode cX6_leastLateness 28 = .ok (.iload_n 3, 1) := by decide +kernel
theorem dX6_leastLateness_29 : decode cX6_leastLateness 29 = .ok (.iconst 1, 1) := by decide +kernel
theorem dX6_leastLateness_30 : decode cX6_leastLateness 30 = .ok (.iload_n 2, 1) := by decide +kernel
theorem dX6_leastLateness_31 : decode cX6_leastLateness 31 = .ok (.ishl, 1) := by decide +kernel
theorem dX6_leastLateness_32 : decode cX6_leastLateness 32 = .ok (.if_icmp .ge 32, 3) := by decide +kernel
theorem dX6_leastLateness_35 : decode cX6_leastLateness 35 = .ok (.aload_n 0, 1) := by decide +kernel
theorem dX6_leastLateness_36 : decode cX6_leastLateness 36 = .ok (.getfield 24, 3) := by decide +kernel
theorem dX6_leastLateness_39 : decode cX6_leastLateness 39 = .ok (.iload_n 3, 1) := by decide +kernel
theorem dX6_leastLateness_40 : decode cX6_leastLateness 40 = .ok (.iconst 1, 1) := by decide +kernel
theorem dX6_leastLateness_41 : decode cX6_leastLateness 41 = .ok (.iload_n 2, 1) := by decide +kernel
theorem dX6_leastLateness_42 : decode cX6_leastLateness 42 = .ok (.ishl, 1) := by decide +kernel
theorem dX6_leastLateness_43 : decode cX6_leastLateness 43 = .ok (.ior, 1) := by decide +kernel
theorem dX6_leastLateness_44 : decode cX6_leastLateness 44 = .ok (.aload_n 0, 1) := by decide +kernel
theorem dX6_leastLateness_45 : decode cX6_leastLateness 45 = .ok (.getfield 24, 3) := by decide +kernel
theorem dX6_leastLateness_48 : decode cX6_leastLateness 48 = .ok (.iload_n 3, 1) := by decide +kernel
theorem dX6_leastLateness_49 : decode cX6_leastLateness 49 = .ok (.iaload, 1) := by decide +kernel
theorem dX6_leastLateness_50 : decode cX6_leastLateness 50 = .ok (.aload_n 0, 1) := by decide +kernel
theorem dX6_leastLateness_51 : decode cX6_leastLateness 51 = .ok (.getfield 11, 3) := by decide +kernel
theorem dX6_leastLateness_54 : decode cX6_leastLateness 54 = .ok (.iload_n 2, 1) := by decide +kernel
theorem dX6_leastLateness_55 : decode cX6_leastLateness 55 = .ok (.iaload, 1) := by decide +kernel
theorem dX6_leastLateness_56 : decode cX6_leastLateness 56 = .ok (.iadd, 1) := by decide +kernel
theorem dX6_leastLateness_57 : decode cX6_leastLateness 57 = .ok (.iastore, 1) := by decide +kernel
theorem dX6_leastLateness_58 : decode cX6_leastLateness 58 = .ok (.iinc 3 1, 3) := by decide +kernel
theorem dX6_leastLateness_61 : decode cX6_leastLateness 61 = .ok (.goto (-33), 3) := by decide +kernel
theorem dX6_leastLateness_64 : decode cX6_leastLateness 64 = .ok (.iinc 2 1, 3) := by decide +kernel
theorem dX6_leastLateness_67 : decode cX6_leastLateness 67 = .ok (.goto (-49), 3) := by decide +kernel
theorem dX6_leastLateness_70 : decode cX6_leastLateness 70 = .ok (.aload_n 0, 1) := by decide +kernel
theorem dX6_leastLateness_71 : decode cX6_leastLateness 71 = .ok (.getfield 21, 3) := by decide +kernel
theorem dX6_leastLateness_74 : decode cX6_leastLateness 74 = .ok (.iload_n 1, 1) := by decide +kernel
theorem dX6_leastLateness_75 : decode cX6_leastLateness 75 = .ok (.iconst 0, 1) := by decide +kernel
theorem dX6_leastLateness_76 : decode cX6_leastLateness 76 = .ok (.iastore, 1) := by decide +kernel
theorem dX6_leastLateness_77 : decode cX6_leastLateness 77 = .ok (.iload_n 1, 1) := by decide +kernel
theorem dX6_leastLateness_78 : decode cX6_leastLateness 78 = .ok (.iconst 1, 1) := by decide +kernel
theorem dX6_leastLateness_79 : decode cX6_leastLateness 79 = .ok (.isub, 1) := by decide +kernel
theorem dX6_leastLateness_80 : decode cX6_leastLateness 80 = .ok (.istore_n 2, 1) := by decide +kernel
theorem dX6_leastLateness_81 : decode cX6_leastLateness 81 = .ok (.iload_n 2, 1) := by decide +kernel
theorem dX6_leastLateness_82 : decode cX6_leastLateness 82 = .ok (.ifCond .lt 58, 3) := by decide +kernel
theorem dX6_leastLateness_85 : decode cX6_leastLateness 85 = .ok (.ldc 55, 2) := by decide +kernel
theorem dX6_leastLateness_87 : decode cX6_leastLateness 87 = .ok (.istore_n 3, 1) := by decide +kernel
theorem dX6_leastLateness_88 : decode cX6_leastLateness 88 = .ok (.iconst 0, 1) := by decide +kernel
theorem dX6_leastLateness_89 : decode cX6_leastLateness 89 = .ok (.istore 4, 2) := by decide +kernel
theorem dX6_leastLateness_91 : decode cX6_leastLateness 91 = .ok (.iload 4, 2) := by decide +kernel
theorem dX6_leastLateness_93 : decode cX6_leastLateness 93 = .ok (.aload_n 0, 1) := by decide +kernel
theorem dX6_leastLateness_94 : decode cX6_leastLateness 94 = .ok (.getfield 51, 3) := by decide +kernel
theorem dX6_leastLateness_97 : decode cX6_leastLateness 97 = .ok (.if_icmp .ge 30, 3) := by decide +kernel
theorem dX6_leastLateness_100 : decode cX6_leastLateness 100 = .ok (.iload_n 2, 1) := by decide +kernel
theorem dX6_leastLateness_101 : decode cX6_leastLateness 101 = .ok (.iconst 1, 1) := by decide +kernel
theorem dX6_leastLateness_102 : decode cX6_leastLateness 102 = .ok (.iload 4, 2) := by decide +kernel
theorem dX6_leastLateness_104 : decode cX6_leastLateness 104 = .ok (.ishl, 1) := by decide +kernel
theorem dX6_leastLateness_105 : decode cX6_leastLateness 105 = .ok (.iand, 1) := by decide +kernel
theorem dX6_leastLateness_106 : decode cX6_leastLateness 106 = .ok (.ifCond .ne 15, 3) := by decide +kernel
theorem dX6_leastLateness_109 : decode cX6_leastLateness 109 = .ok (.iload_n 3, 1) := by decide +kernel
theorem dX6_leastLateness_110 : decode cX6_leastLateness 110 = .ok (.aload_n 0, 1) := by decide +kernel
theorem dX6_leastLateness_111 : decode cX6_leastLateness 111 = .ok (.iload_n 2, 1) := by decide +kernel
theorem dX6_leastLateness_112 : decode cX6_leastLateness 112 = .ok (.iload 4, 2) := by decide +kernel
theorem dX6_leastLateness_114 : decode cX6_leastLateness 114 = .ok (.invokevirtual 56, 3) := by decide +kernel
theorem dX6_leastLateness_117 : decode cX6_leastLateness 117 = .ok (.invokestatic 60, 3) := by decide +kernel
theorem dX6_leastLateness_120 : decode cX6_leastLateness 120 = .ok (.istore_n 3, 1) := by decide +kernel
theorem dX6_leastLateness_121 : decode cX6_leastLateness 121 = .ok (.iinc 4 1, 3) := by decide +kernel
theorem dX6_leastLateness_124 : decode cX6_leastLateness 124 = .ok (.goto (-33), 3) := by decide +kernel
theorem dX6_leastLateness_127 : decode cX6_leastLateness 127 = .ok (.aload_n 0, 1) := by decide +kernel
theorem dX6_leastLateness_128 : decode cX6_leastLateness 128 = .ok (.getfield 21, 3) := by decide +kernel
theorem dX6_leastLateness_131 : decode cX6_leastLateness 131 = .ok (.iload_n 2, 1) := by decide +kernel
theorem dX6_leastLateness_132 : decode cX6_leastLateness 132 = .ok (.iload_n 3, 1) := by decide +kernel
theorem dX6_leastLateness_133 : decode cX6_leastLateness 133 = .ok (.iastore, 1) := by decide +kernel
theorem dX6_leastLateness_134 : decode cX6_leastLateness 134 = .ok (.iinc 2 (-1), 3) := by decide +kernel
theorem dX6_leastLateness_137 : decode cX6_leastLateness 137 = .ok (.goto (-56), 3) := by decide +kernel
theorem dX6_leastLateness_140 : decode cX6_leastLateness 140 = .ok (.aload_n 0, 1) := by decide +kernel
theorem dX6_leastLateness_141 : decode cX6_leastLateness 141 = .ok (.invokevirtual 65, 3) := by decide +kernel
theorem dX6_leastLateness_144 : decode cX6_leastLateness 144 = .ok (.aload_n 0, 1) := by decide +kernel
theorem dX6_leastLateness_145 : decode cX6_leastLateness 145 = .ok (.iconst 0, 1) := by decide +kernel
theorem dX6_leastLateness_146 : decode cX6_leastLateness 146 = .ok (.putfield 51, 3) := by decide +kernel
theorem dX6_leastLateness_149 : decode cX6_leastLateness 149 = .ok (.aload_n 0, 1) := by decide +kernel
theorem dX6_leastLateness_150 : decode cX6_leastLateness 150 = .ok (.getfield 21, 3) := by decide +kernel
theorem dX6_leastLateness_153 : decode cX6_leastLateness 153 = .ok (.iconst 0, 1) := by decide +kernel
theorem dX6_leastLateness_154 : decode cX6_leastLateness 154 = .ok (.iaload, 1) := by decide +kernel
theorem dX6_leastLateness_155 : decode cX6_leastLateness 155 = .ok (.ireturn, 1) := by decide +kernel
theorem dX6_sumWith_0 : decode cX6_sumWith 0 = .ok (.iconst 0, 1) := by decide +kernel
theorem dX6_sumWith_1 : decode cX6_sumWith 1 = .ok (.aload_n 0, 1) := by decide +kernel
theorem dX6_sumWith_2 : decode cX6_sumWith 2 = .ok (.getfield 24, 3) := by decide +kernel
theorem dX6_sumWith_5 : decode cX6_sumWith 5 = .ok (.iload_n 1, 1) := by decide +kernel
theorem dX6_sumWith_6 : decode cX6_sumWith 6 = .ok (.iaload, 1) := by decide +kernel
theorem dX6_sumWith_7 : decode cX6_sumWith 7 = .ok (.aload_n 0, 1) := by decide +kernel
theorem dX6_sumWith_8 : decode cX6_sumWith 8 = .ok (.getfield 11, 3) := by decide +kernel
theorem dX6_sumWith_11 : decode cX6_sumWith 11 = .ok (.iload_n 2, 1) := by decide +kernel
theorem dX6_sumWith_12 : decode cX6_sumWith 12 = .ok (.iaload, 1) := by decide +kernel
theorem dX6_sumWith_13 : decode cX6_sumWith 13 = .ok (.iadd, 1) := by decide +kernel
theorem dX6_sumWith_14 : decode cX6_sumWith 14 = .ok (.aload_n 0, 1) := by decide +kernel
theorem dX6_sumWith_15 : decode cX6_sumWith 15 = .ok (.getfield 18, 3) := by decide +kernel
theorem dX6_sumWith_18 : decode cX6_sumWith 18 = .ok (.iload_n 2, 1) := by decide +kernel
theorem dX6_sumWith_19 : decode cX6_sumWith 19 = .ok (.iaload, 1) := by decide +kernel
theorem dX6_sumWith_20 : decode cX6_sumWith 20 = .ok (.isub, 1) := by decide +kernel
theorem dX6_sumWith_21 : decode cX6_sumWith 21 = .ok (.invokestatic 68, 3) := by decide +kernel
theorem dX6_sumWith_24 : decode cX6_sumWith 24 = .ok (.istore_n 3, 1) := by decide +kernel
theorem dX6_sumWith_25 : decode cX6_sumWith 25 = .ok (.aload_n 0, 1) := by decide +kernel
theorem dX6_sumWith_26 : decode cX6_sumWith 26 = .ok (.getfield 15, 3) := by decide +kernel
theorem dX6_sumWith_29 : decode cX6_sumWith 29 = .ok (.iload_n 2, 1) := by decide +kernel
theorem dX6_sumWith_30 : decode cX6_sumWith 30 = .ok (.iaload, 1) := by decide +kernel
theorem dX6_sumWith_31 : decode cX6_sumWith 31 = .ok (.iload_n 3, 1) := by decide +kernel
theorem dX6_sumWith_32 : decode cX6_sumWith 32 = .ok (.imul, 1) := by decide +kernel
theorem dX6_sumWith_33 : decode cX6_sumWith 33 = .ok (.aload_n 0, 1) := by decide +kernel
theorem dX6_sumWith_34 : decode cX6_sumWith 34 = .ok (.getfield 21, 3) := by decide +kernel
theorem dX6_sumWith_37 : decode cX6_sumWith 37 = .ok (.iload_n 1, 1) := by decide +kernel
theorem dX6_sumWith_38 : decode cX6_sumWith 38 = .ok (.iconst 1, 1) := by decide +kernel
theorem dX6_sumWith_39 : decode cX6_sumWith 39 = .ok (.iload_n 2, 1) := by decide +kernel
theorem dX6_sumWith_40 : decode cX6_sumWith 40 = .ok (.ishl, 1) := by decide +kernel
theorem dX6_sumWith_41 : decode cX6_sumWith 41 = .ok (.ior, 1) := by decide +kernel
theorem dX6_sumWith_42 : decode cX6_sumWith 42 = .ok (.iaload, 1) := by decide +kernel
theorem dX6_sumWith_43 : decode cX6_sumWith 43 = .ok (.iadd, 1) := by decide +kernel
theorem dX6_sumWith_44 : decode cX6_sumWith 44 = .ok (.ireturn, 1) := by decide +kernel
theorem dX6_placesFollow_0 : decode cX6_placesFollow 0 = .ok (.iconst 0, 1) := by decide +kernel
theorem dX6_placesFollow_1 : decode cX6_placesFollow 1 = .ok (.istore_n 1, 1) := by decide +kernel
theorem dX6_placesFollow_2 : decode cX6_placesFollow 2 = .ok (.iconst 0, 1) := by decide +kernel
theorem dX6_placesFollow_3 : decode cX6_placesFollow 3 = .ok (.istore_n 2, 1) := by decide +kernel
theorem dX6_placesFollow_4 : decode cX6_placesFollow 4 = .ok (.iload_n 2, 1) := by decide +kernel
theorem dX6_placesFollow_5 : decode cX6_placesFollow 5 = .ok (.aload_n 0, 1) := by decide +kernel
theorem dX6_placesFollow_6 : decode cX6_placesFollow 6 = .ok (.getfield 51, 3) := by decide +kernel
theorem dX6_placesFollow_9 : decode cX6_placesFollow 9 = .ok (.if_icmp .ge 63, 3) := by decide +kernel
theorem dX6_placesFollow_12 : decode cX6_placesFollow 12 = .ok (.iconst 0, 1) := by decide +kernel
theorem dX6_placesFollow_13 : decode cX6_placesFollow 13 = .ok (.istore_n 3, 1) := by decide +kernel
theorem dX6_placesFollow_14 : decode cX6_placesFollow 14 = .ok (.iload_n 3, 1) := by decide +kernel
theorem dX6_placesFollow_15 : decode cX6_placesFollow 15 = .ok (.aload_n 0, 1) := by decide +kernel
theorem dX6_placesFollow_16 : decode cX6_placesFollow 16 = .ok (.getfield 51, 3) := by decide +kernel
theorem dX6_placesFollow_19 : decode cX6_placesFollow 19 = .ok (.iconst 1, 1) := by decide +kernel
theorem dX6_placesFollow_20 : decode cX6_placesFollow 20 = .ok (.isub, 1) := by decide +kernel
theorem dX6_placesFollow_21 : decode cX6_placesFollow 21 = .ok (.if_icmp .ge 32, 3) := by decide +kernel
theorem dX6_placesFollow_24 : decode cX6_placesFollow 24 = .ok (.iload_n 1, 1) := by decide +kernel
theorem dX6_placesFollow_25 : decode cX6_placesFollow 25 = .ok (.iconst 1, 1) := by decide +kernel
theorem dX6_placesFollow_26 : decode cX6_placesFollow 26 = .ok (.iload_n 3, 1) := by decide +kernel
theorem dX6_placesFollow_27 : decode cX6_placesFollow 27 = .ok (.ishl, 1) := by decide +kernel
theorem dX6_placesFollow_28 : decode cX6_placesFollow 28 = .ok (.iand, 1) := by decide +kernel
theorem dX6_placesFollow_29 : decode cX6_placesFollow 29 = .ok (.ifCond .ne 18, 3) := by decide +kernel
theorem dX6_placesFollow_32 : decode cX6_placesFollow 32 = .ok (.aload_n 0, 1) := by decide +kernel
theorem dX6_placesFollow_33 : decode cX6_placesFollow 33 = .ok (.iload_n 1, 1) := by decide +kernel
theorem dX6_placesFollow_34 : decode cX6_placesFollow 34 = .ok (.iload_n 3, 1) := by decide +kernel
theorem dX6_placesFollow_35 : decode cX6_placesFollow 35 = .ok (.invokevirtual 56, 3) := by decide +kernel
theorem dX6_placesFollow_38 : decode cX6_placesFollow 38 = .ok (.aload_n 0, 1) := by decide +kernel
theorem dX6_placesFollow_39 : decode cX6_placesFollow 39 = .ok (.getfield 21, 3) := by decide +kernel
theorem dX6_placesFollow_42 : decode cX6_placesFollow 42 = .ok (.iload_n 1, 1) := by decide +kernel
theorem dX6_placesFollow_43 : decode cX6_placesFollow 43 = .ok (.iaload, 1) := by decide +kernel
theorem dX6_placesFollow_44 : decode cX6_placesFollow 44 = .ok (.if_icmp .eq 9, 3) := by decide +kernel
theorem dX6_placesFollow_47 : decode cX6_placesFollow 47 = .ok (.iinc 3 1, 3) := by decide +kernel
theorem dX6_placesFollow_50 : decode cX6_placesFollow 50 = .ok (.goto (-36), 3) := by decide +kernel
theorem dX6_placesFollow_53 : decode cX6_placesFollow 53 = .ok (.aload_n 0, 1) := by decide +kernel
theorem dX6_placesFollow_54 : decode cX6_placesFollow 54 = .ok (.getfield 27, 3) := by decide +kernel
theorem dX6_placesFollow_57 : decode cX6_placesFollow 57 = .ok (.iload_n 2, 1) := by decide +kernel
theorem dX6_placesFollow_58 : decode cX6_placesFollow 58 = .ok (.iload_n 3, 1) := by decide +kernel
theorem dX6_placesFollow_59 : decode cX6_placesFollow 59 = .ok (.iastore, 1) := by decide +kernel
theorem dX6_placesFollow_60 : decode cX6_placesFollow 60 = .ok (.iload_n 1, 1) := by decide +kernel
theorem dX6_placesFollow_61 : decode cX6_placesFollow 61 = .ok (.iconst 1, 1) := by decide +kernel
theorem dX6_placesFollow_62 : decode cX6_placesFollow 62 = .ok (.iload_n 3, 1) := by decide +kernel
theorem dX6_placesFollow_63 : decode cX6_placesFollow 63 = .ok (.ishl, 1) := by decide +kernel
theorem dX6_placesFollow_64 : decode cX6_placesFollow 64 = .ok (.ior, 1) := by decide +kernel
theorem dX6_placesFollow_65 : decode cX6_placesFollow 65 = .ok (.istore_n 1, 1) := by decide +kernel
theorem dX6_placesFollow_66 : decode cX6_placesFollow 66 = .ok (.iinc 2 1, 3) := by decide +kernel
theorem dX6_placesFollow_69 : decode cX6_placesFollow 69 = .ok (.goto (-65), 3) := by decide +kernel
theorem dX6_placesFollow_72 : decode cX6_placesFollow 72 = .ok (.aload_n 0, 1) := by decide +kernel
theorem dX6_placesFollow_73 : decode cX6_placesFollow 73 = .ok (.aload_n 0, 1) := by decide +kernel
theorem dX6_placesFollow_74 : decode cX6_placesFollow 74 = .ok (.getfield 51, 3) := by decide +kernel
theorem dX6_placesFollow_77 : decode cX6_placesFollow 77 = .ok (.putfield 71, 3) := by decide +kernel
theorem dX6_placesFollow_80 : decode cX6_placesFollow 80 = .ok (.return_, 1) := by decide +kernel
theorem dX6_aimTold_0 : decode cX6_aimTold 0 = .ok (.aload_n 0, 1) := by decide +kernel
theorem dX6_aimTold_1 : decode cX6_aimTold 1 = .ok (.getfield 74, 3) := by decide +kernel
theorem dX6_aimTold_4 : decode cX6_aimTold 4 = .ok (.bipush 6, 2) := by decide +kernel
theorem dX6_aimTold_6 : decode cX6_aimTold 6 = .ok (.if_icmp .lt 6, 3) := by decide +kernel
theorem dX6_aimTold_9 : decode cX6_aimTold 9 = .ok (.bipush (-3), 2) := by decide +kernel
theorem dX6_aimTold_11 : decode cX6_aimTold 11 = .ok (.ireturn, 1) := by decide +kernel
theorem dX6_aimTold_12 : decode cX6_aimTold 12 = .ok (.aload_n 0, 1) := by decide +kernel
theorem dX6_aimTold_13 : decode cX6_aimTold 13 = .ok (.getfield 30, 3) := by decide +kernel
theorem dX6_aimTold_16 : decode cX6_aimTold 16 = .ok (.aload_n 0, 1) := by decide +kernel
theorem dX6_aimTold_17 : decode cX6_aimTold 17 = .ok (.getfield 74, 3) := by decide +kernel
theorem dX6_aimTold_20 : decode cX6_aimTold 20 = .ok (.iload_n 1, 1) := by decide +kernel
theorem dX6_aimTold_21 : decode cX6_aimTold 21 = .ok (.iastore, 1) := by decide +kernel
theorem dX6_aimTold_22 : decode cX6_aimTold 22 = .ok (.aload_n 0, 1) := by decide +kernel
theorem dX6_aimTold_23 : decode cX6_aimTold 23 = .ok (.dup, 1) := by decide +kernel
theorem dX6_aimTold_24 : decode cX6_aimTold 24 = .ok (.getfield 74, 3) := by decide +kernel
theorem dX6_aimTold_27 : decode cX6_aimTold 27 = .ok (.iconst 1, 1) := by decide +kernel
theorem dX6_aimTold_28 : decode cX6_aimTold 28 = .ok (.iadd, 1) := by decide +kernel
theorem dX6_aimTold_29 : decode cX6_aimTold 29 = .ok (.putfield 74, 3) := by decide +kernel
theorem dX6_aimTold_32 : decode cX6_aimTold 32 = .ok (.aload_n 0, 1) := by decide +kernel
theorem dX6_aimTold_33 : decode cX6_aimTold 33 = .ok (.getfield 74, 3) := by decide +kernel
theorem dX6_aimTold_36 : decode cX6_aimTold 36 = .ok (.ireturn, 1) := by decide +kernel
theorem dX6_weighPlaces_0 : decode cX6_weighPlaces 0 = .ok (.iconst 0, 1) := by decide +kernel
theorem dX6_weighPlaces_1 : decode cX6_weighPlaces 1 = .ok (.istore_n 3, 1) := by decide +kernel
theorem dX6_weighPlaces_2 : decode cX6_weighPlaces 2 = .ok (.iload_n 3, 1) := by decide +kernel
theorem dX6_weighPlaces_3 : decode cX6_weighPlaces 3 = .ok (.aload_n 0, 1) := by decide +kernel
theorem dX6_weighPlaces_4 : decode cX6_weighPlaces 4 = .ok (.getfield 74, 3) := by decide +kernel
theorem dX6_weighPlaces_7 : decode cX6_weighPlaces 7 = .ok (.if_icmp .ge 71, 3) := by decide +kernel
theorem dX6_weighPlaces_10 : decode cX6_weighPlaces 10 = .ok (.iconst 1, 1) := by decide +kernel
theorem dX6_weighPlaces_11 : decode cX6_weighPlaces 11 = .ok (.istore 4, 2) := by decide +kernel
theorem dX6_weighPlaces_13 : decode cX6_weighPlaces 13 = .ok (.iconst 0, 1) := by decide +kernel
theorem dX6_weighPlaces_14 : decode cX6_weighPlaces 14 = .ok (.istore 5, 2) := by decide +kernel
theorem dX6_weighPlaces_16 : decode cX6_weighPlaces 16 = .ok (.iload 5, 2) := by decide +kernel
theorem dX6_weighPlaces_18 : decode cX6_weighPlaces 18 = .ok (.iload_n 1, 1) := by decide +kernel
theorem dX6_weighPlaces_19 : decode cX6_weighPlaces 19 = .ok (.if_icmp .ge 34, 3) := by decide +kernel
theorem dX6_weighPlaces_22 : decode cX6_weighPlaces 22 = .ok (.iload 5, 2) := by decide +kernel
theorem dX6_weighPlaces_24 : decode cX6_weighPlaces 24 = .ok (.iconst 4, 1) := by decide +kernel
theorem dX6_weighPlaces_25 : decode cX6_weighPlaces 25 = .ok (.if_icmp .ge 28, 3) := by decide +kernel
theorem dX6_weighPlaces_28 : decode cX6_weighPlaces 28 = .ok (.iload 4, 2) := by decide +kernel
theorem dX6_weighPlaces_30 : decode cX6_weighPlaces 30 = .ok (.aload_n 0, 1) := by decide +kernel
theorem dX6_weighPlaces_31 : decode cX6_weighPlaces 31 = .ok (.getfield 33, 3) := by decide +kernel
theorem dX6_weighPlaces_34 : decode cX6_weighPlaces 34 = .ok (.iload 5, 2) := by decide +kernel
theorem dX6_weighPlaces_36 : decode cX6_weighPlaces 36 = .ok (.bipush 6, 2) := by decide +kernel
theorem dX6_weighPlaces_38 : decode cX6_weighPlaces 38 = .ok (.imul, 1) := by decide +kernel
theorem dX6_weighPlaces_39 : decode cX6_weighPlaces 39 = .ok (.iload_n 3, 1) := by decide +kernel
theorem dX6_weighPlaces_40 : decode cX6_weighPlaces 40 = .ok (.iadd, 1) := by decide +kernel
theorem dX6_weighPlaces_41 : decode cX6_weighPlaces 41 = .ok (.iaload, 1) := by decide +kernel
theorem dX6_weighPlaces_42 : decode cX6_weighPlaces 42 = .ok (.invokestatic 68, 3) := by decide +kernel
theorem dX6_weighPlaces_45 : decode cX6_weighPlaces 45 = .ok (.istore 4, 2) := by decide +kernel
theorem dX6_weighPlaces_47 : decode cX6_weighPlaces 47 = .ok (.iinc 5 1, 3) := by decide +kernel
theorem dX6_weighPlaces_50 : decode cX6_weighPlaces 50 = .ok (.goto (-34), 3) := by decide +kernel
theorem dX6_weighPlaces_53 : decode cX6_weighPlaces 53 = .ok (.aload_n 0, 1) := by decide +kernel
theorem dX6_weighPlaces_54 : decode cX6_weighPlaces 54 = .ok (.getfield 36, 3) := by decide +kernel
theorem dX6_weighPlaces_57 : decode cX6_weighPlaces 57 = .ok (.iload_n 3, 1) := by decide +kernel
theorem dX6_weighPlaces_58 : decode cX6_weighPlaces 58 = .ok (.aload_n 0, 1) := by decide +kernel
theorem dX6_weighPlaces_59 : decode cX6_weighPlaces 59 = .ok (.getfield 30, 3) := by decide +kernel
theorem dX6_weighPlaces_62 : decode cX6_weighPlaces 62 = .ok (.iload_n 3, 1) := by decide +kernel
theorem dX6_weighPlaces_63 : decode cX6_weighPlaces 63 = .ok (.iaload, 1) := by decide +kernel
theorem dX6_weighPlaces_64 : decode cX6_weighPlaces 64 = .ok (.iconst 1, 1) := by decide +kernel
theorem dX6_weighPlaces_65 : decode cX6_weighPlaces 65 = .ok (.iadd, 1) := by decide +kernel
theorem dX6_weighPlaces_66 : decode cX6_weighPlaces 66 = .ok (.iload_n 2, 1) := by decide +kernel
theorem dX6_weighPlaces_67 : decode cX6_weighPlaces 67 = .ok (.imul, 1) := by decide +kernel
theorem dX6_weighPlaces_68 : decode cX6_weighPlaces 68 = .ok (.iload 4, 2) := by decide +kernel
theorem dX6_weighPlaces_70 : decode cX6_weighPlaces 70 = .ok (.imul, 1) := by decide +kernel
theorem dX6_weighPlaces_71 : decode cX6_weighPlaces 71 = .ok (.iastore, 1) := by decide +kernel
theorem dX6_weighPlaces_72 : decode cX6_weighPlaces 72 = .ok (.iinc 3 1, 3) := by decide +kernel
theorem dX6_weighPlaces_75 : decode cX6_weighPlaces 75 = .ok (.goto (-73), 3) := by decide +kernel
theorem dX6_weighPlaces_78 : decode cX6_weighPlaces 78 = .ok (.return_, 1) := by decide +kernel
theorem dX6_soonestOne_0 : decode cX6_soonestOne 0 = .ok (.ldc 55, 2) := by decide +kernel
theorem dX6_soonestOne_2 : decode cX6_soonestOne 2 = .ok (.istore_n 2, 1) := by decide +kernel
theorem dX6_soonestOne_3 : decode cX6_soonestOne 3 = .ok (.iconst 0, 1) := by decide +kernel
theorem dX6_soonestOne_4 : decode cX6_soonestOne 4 = .ok (.istore_n 3, 1) := by decide +kernel
theorem dX6_soonestOne_5 : decode cX6_soonestOne 5 = .ok (.iload_n 3, 1) := by decide +kernel
theorem dX6_soonestOne_6 : decode cX6_soonestOne 6 = .ok (.aload_n 0, 1) := by decide +kernel
theorem dX6_soonestOne_7 : decode cX6_soonestOne 7 = .ok (.getfield 74, 3) := by decide +kernel
theorem dX6_soonestOne_10 : decode cX6_soonestOne 10 = .ok (.if_icmp .ge 65, 3) := by decide +kernel
theorem dX6_soonestOne_13 : decode cX6_soonestOne 13 = .ok (.iconst 0, 1) := by decide +kernel
theorem dX6_soonestOne_14 : decode cX6_soonestOne 14 = .ok (.istore 4, 2) := by decide +kernel
theorem dX6_soonestOne_16 : decode cX6_soonestOne 16 = .ok (.iload 4, 2) := by decide +kernel
theorem dX6_soonestOne_18 : decode cX6_soonestOne 18 = .ok (.aload_n 1, 1) := by decide +kernel
theorem dX6_soonestOne_19 : decode cX6_soonestOne 19 = .ok (.arraylength, 1) := by decide +kernel
theorem dX6_soonestOne_20 : decode cX6_soonestOne 20 = .ok (.if_icmp .ge 49, 3) := by decide +kernel
theorem dX6_soonestOne_23 : decode cX6_soonestOne 23 = .ok (.aload_n 0, 1) := by decide +kernel
theorem dX6_soonestOne_24 : decode cX6_soonestOne 24 = .ok (.getfield 36, 3) := by decide +kernel
theorem dX6_soonestOne_27 : decode cX6_soonestOne 27 = .ok (.iload_n 3, 1) := by decide +kernel
theorem dX6_soonestOne_28 : decode cX6_soonestOne 28 = .ok (.iaload, 1) := by decide +kernel
theorem dX6_soonestOne_29 : decode cX6_soonestOne 29 = .ok (.aload_n 1, 1) := by decide +kernel
theorem dX6_soonestOne_30 : decode cX6_soonestOne 30 = .ok (.iload 4, 2) := by decide +kernel
theorem dX6_soonestOne_32 : decode cX6_soonestOne 32 = .ok (.aaload, 1) := by decide +kernel
theorem dX6_soonestOne_33 : decode cX6_soonestOne 33 = .ok (.getfield 77, 3) := by decide +kernel
theorem dX6_soonestOne_36 : decode cX6_soonestOne 36 = .ok (.imul, 1) := by decide +kernel
theorem dX6_soonestOne_37 : decode cX6_soonestOne 37 = .ok (.istore 5, 2) := by decide +kernel
theorem dX6_soonestOne_39 : decode cX6_soonestOne 39 = .ok (.iload 5, 2) := by decide +kernel
theorem dX6_soonestOne_41 : decode cX6_soonestOne 41 = .ok (.iload_n 2, 1) := by decide +kernel
theorem dX6_soonestOne_42 : decode cX6_soonestOne 42 = .ok (.if_icmp .ge 21, 3) := by decide +kernel
theorem dX6_soonestOne_45 : decode cX6_soonestOne 45 = .ok (.iload 5, 2) := by decide +kernel
theorem dX6_soonestOne_47 : decode cX6_soonestOne 47 = .ok (.istore_n 2, 1) := by decide +kernel
theorem dX6_soonestOne_48 : decode cX6_soonestOne 48 = .ok (.aload_n 0, 1) := by decide +kernel
theorem dX6_soonestOne_49 : decode cX6_soonestOne 49 = .ok (.getfield 39, 3) := by decide +kernel
theorem dX6_soonestOne_52 : decode cX6_soonestOne 52 = .ok (.iconst 0, 1) := by decide +kernel
theorem dX6_soonestOne_53 : decode cX6_soonestOne 53 = .ok (.iload_n 3, 1) := by decide +kernel
theorem dX6_soonestOne_54 : decode cX6_soonestOne 54 = .ok (.iastore, 1) := by decide +kernel
theorem dX6_soonestOne_55 : decode cX6_soonestOne 55 = .ok (.aload_n 0, 1) := by decide +kernel
theorem dX6_soonestOne_56 : decode cX6_soonestOne 56 = .ok (.getfield 42, 3) := by decide +kernel
theorem dX6_soonestOne_59 : decode cX6_soonestOne 59 = .ok (.iconst 0, 1) := by decide +kernel
theorem dX6_soonestOne_60 : decode cX6_soonestOne 60 = .ok (.iload 4, 2) := by decide +kernel
theorem dX6_soonestOne_62 : decode cX6_soonestOne 62 = .ok (.iastore, 1) := by decide +kernel
theorem dX6_soonestOne_63 : decode cX6_soonestOne 63 = .ok (.iinc 4 1, 3) := by decide +kernel
theorem dX6_soonestOne_66 : decode cX6_soonestOne 66 = .ok (.goto (-50), 3) := by decide +kernel
theorem dX6_soonestOne_69 : decode cX6_soonestOne 69 = .ok (.iinc 3 1, 3) := by decide +kernel
theorem dX6_soonestOne_72 : decode cX6_soonestOne 72 = .ok (.goto (-67), 3) := by decide +kernel
theorem dX6_soonestOne_75 : decode cX6_soonestOne 75 = .ok (.aload_n 0, 1) := by decide +kernel
theorem dX6_soonestOne_76 : decode cX6_soonestOne 76 = .ok (.iconst 1, 1) := by decide +kernel
theorem dX6_soonestOne_77 : decode cX6_soonestOne 77 = .ok (.putfield 82, 3) := by decide +kernel
theorem dX6_soonestOne_80 : decode cX6_soonestOne 80 = .ok (.iload_n 2, 1) := by decide +kernel
theorem dX6_soonestOne_81 : decode cX6_soonestOne 81 = .ok (.ireturn, 1) := by decide +kernel
theorem dX6_soonestTwo_0 : decode cX6_soonestTwo 0 = .ok (.ldc 55, 2) := by decide +kernel
theorem dX6_soonestTwo_2 : decode cX6_soonestTwo 2 = .ok (.istore_n 2, 1) := by decide +kernel
theorem dX6_soonestTwo_3 : decode cX6_soonestTwo 3 = .ok (.iconst 0, 1) := by decide +kernel
theorem dX6_soonestTwo_4 : decode cX6_soonestTwo 4 = .ok (.istore_n 3, 1) := by decide +kernel
theorem dX6_soonestTwo_5 : decode cX6_soonestTwo 5 = .ok (.iload_n 3, 1) := by decide +kernel
theorem dX6_soonestTwo_6 : decode cX6_soonestTwo 6 = .ok (.aload_n 0, 1) := by decide +kernel
theorem dX6_soonestTwo_7 : decode cX6_soonestTwo 7 = .ok (.getfield 74, 3) := by decide +kernel
theorem dX6_soonestTwo_10 : decode cX6_soonestTwo 10 = .ok (.if_icmp .ge 43, 3) := by decide +kernel
theorem dX6_soonestTwo_13 : decode cX6_soonestTwo 13 = .ok (.iconst 0, 1) := by decide +kernel
theorem dX6_soonestTwo_14 : decode cX6_soonestTwo 14 = .ok (.istore 4, 2) := by decide +kernel
theorem dX6_soonestTwo_16 : decode cX6_soonestTwo 16 = .ok (.iload 4, 2) := by decide +kernel
theorem dX6_soonestTwo_18 : decode cX6_soonestTwo 18 = .ok (.aload_n 0, 1) := by decide +kernel
theorem dX6_soonestTwo_19 : decode cX6_soonestTwo 19 = .ok (.getfield 74, 3) := by decide +kernel
theorem dX6_soonestTwo_22 : decode cX6_soonestTwo 22 = .ok (.if_icmp .ge 25, 3) := by decide +kernel
theorem dX6_soonestTwo_25 : decode cX6_soonestTwo 25 = .ok (.iload_n 3, 1) := by decide +kernel
theorem dX6_soonestTwo_26 : decode cX6_soonestTwo 26 = .ok (.iload 4, 2) := by decide +kernel
theorem dX6_soonestTwo_28 : decode cX6_soonestTwo 28 = .ok (.if_icmp .eq 13, 3) := by decide +kernel
theorem dX6_soonestTwo_31 : decode cX6_soonestTwo 31 = .ok (.aload_n 0, 1) := by decide +kernel
theorem dX6_soonestTwo_32 : decode cX6_soonestTwo 32 = .ok (.aload_n 1, 1) := by decide +kernel
theorem dX6_soonestTwo_33 : decode cX6_soonestTwo 33 = .ok (.iload_n 3, 1) := by decide +kernel
theorem dX6_soonestTwo_34 : decode cX6_soonestTwo 34 = .ok (.iload 4, 2) := by decide +kernel
theorem dX6_soonestTwo_36 : decode cX6_soonestTwo 36 = .ok (.iload_n 2, 1) := by decide +kernel
theorem dX6_soonestTwo_37 : decode cX6_soonestTwo 37 = .ok (.invokevirtual 85, 3) := by decide +kernel
theorem dX6_soonestTwo_40 : decode cX6_soonestTwo 40 = .ok (.istore_n 2, 1) := by decide +kernel
theorem dX6_soonestTwo_41 : decode cX6_soonestTwo 41 = .ok (.iinc 4 1, 3) := by decide +kernel
theorem dX6_soonestTwo_44 : decode cX6_soonestTwo 44 = .ok (.goto (-28), 3) := by decide +kernel
theorem dX6_soonestTwo_47 : decode cX6_soonestTwo 47 = .ok (.iinc 3 1, 3) := by decide +kernel
theorem dX6_soonestTwo_50 : decode cX6_soonestTwo 50 = .ok (.goto (-45), 3) := by decide +kernel
theorem dX6_soonestTwo_53 : decode cX6_soonestTwo 53 = .ok (.aload_n 0, 1) := by decide +kernel
theorem dX6_soonestTwo_54 : decode cX6_soonestTwo 54 = .ok (.iconst 2, 1) := by decide +kernel
theorem dX6_soonestTwo_55 : decode cX6_soonestTwo 55 = .ok (.putfield 82, 3) := by decide +kernel
theorem dX6_soonestTwo_58 : decode cX6_soonestTwo 58 = .ok (.iload_n 2, 1) := by decide +kernel
theorem dX6_soonestTwo_59 : decode cX6_soonestTwo 59 = .ok (.ireturn, 1) := by decide +kernel
theorem dX6_soonestPair_0 : decode cX6_soonestPair 0 = .ok (.iload 4, 2) := by decide +kernel
theorem dX6_soonestPair_2 : decode cX6_soonestPair 2 = .ok (.istore 5, 2) := by decide +kernel
theorem dX6_soonestPair_4 : decode cX6_soonestPair 4 = .ok (.iconst 0, 1) := by decide +kernel
theorem dX6_soonestPair_5 : decode cX6_soonestPair 5 = .ok (.istore 6, 2) := by decide +kernel
theorem dX6_soonestPair_7 : decode cX6_soonestPair 7 = .ok (.iload 6, 2) := by decide +kernel
theorem dX6_soonestPair_9 : decode cX6_soonestPair 9 = .ok (.aload_n 1, 1) := by decide +kernel
theorem dX6_soonestPair_10 : decode cX6_soonestPair 10 = .ok (.arraylength, 1) := by decide +kernel
theorem dX6_soonestPair_11 : decode cX6_soonestPair 11 = .ok (.if_icmp .ge 102, 3) := by decide +kernel
theorem dX6_soonestPair_14 : decode cX6_soonestPair 14 = .ok (.iload 6, 2) := by decide +kernel
theorem dX6_soonestPair_16 : decode cX6_soonestPair 16 = .ok (.iconst 1, 1) := by decide +kernel
theorem dX6_soonestPair_17 : decode cX6_soonestPair 17 = .ok (.iadd, 1) := by decide +kernel
theorem dX6_soonestPair_18 : decode cX6_soonestPair 18 = .ok (.istore 7, 2) := by decide +kernel
theorem dX6_soonestPair_20 : decode cX6_soonestPair 20 = .ok (.iload 7, 2) := by decide +kernel
theorem dX6_soonestPair_22 : decode cX6_soonestPair 22 = .ok (.aload_n 1, 1) := by decide +kernel
theorem dX6_soonestPair_23 : decode cX6_soonestPair 23 = .ok (.arraylength, 1) := by decide +kernel
theorem dX6_soonestPair_24 : decode cX6_soonestPair 24 = .ok (.if_icmp .ge 83, 3) := by decide +kernel
theorem dX6_soonestPair_27 : decode cX6_soonestPair 27 = .ok (.aload_n 0, 1) := by decide +kernel
theorem dX6_soonestPair_28 : decode cX6_soonestPair 28 = .ok (.getfield 36, 3) := by decide +kernel
theorem dX6_soonestPair_31 : decode cX6_soonestPair 31 = .ok (.iload_n 2, 1) := by decide +kernel
theorem dX6_soonestPair_32 : decode cX6_soonestPair 32 = .ok (.iaload, 1) := by decide +kernel
theorem dX6_soonestPair_33 : decode cX6_soonestPair 33 = .ok (.aload_n 1, 1) := by decide +kernel
theorem dX6_soonestPair_34 : decode cX6_soonestPair 34 = .ok (.iload 6, 2) := by decide +kernel
theorem dX6_soonestPair_36 : decode cX6_soonestPair 36 = .ok (.aaload, 1) := by decide +kernel
theorem dX6_soonestPair_37 : decode cX6_soonestPair 37 = .ok (.getfield 77, 3) := by decide +kernel
theorem dX6_soonestPair_40 : decode cX6_soonestPair 40 = .ok (.imul, 1) := by decide +kernel
theorem dX6_soonestPair_41 : decode cX6_soonestPair 41 = .ok (.aload_n 0, 1) := by decide +kernel
theorem dX6_soonestPair_42 : decode cX6_soonestPair 42 = .ok (.getfield 36, 3) := by decide +kernel
theorem dX6_soonestPair_45 : decode cX6_soonestPair 45 = .ok (.iload_n 3, 1) := by decide +kernel
theorem dX6_soonestPair_46 : decode cX6_soonestPair 46 = .ok (.iaload, 1) := by decide +kernel
theorem dX6_soonestPair_47 : decode cX6_soonestPair 47 = .ok (.aload_n 1, 1) := by decide +kernel
theorem dX6_soonestPair_48 : decode cX6_soonestPair 48 = .ok (.iload 7, 2) := by decide +kernel
theorem dX6_soonestPair_50 : decode cX6_soonestPair 50 = .ok (.aaload, 1) := by decide +kernel
theorem dX6_soonestPair_51 : decode cX6_soonestPair 51 = .ok (.getfield 77, 3) := by decide +kernel
theorem dX6_soonestPair_54 : decode cX6_soonestPair 54 = .ok (.imul, 1) := by decide +kernel
theorem dX6_soonestPair_55 : decode cX6_soonestPair 55 = .ok (.invokestatic 68, 3) := by decide +kernel
theorem dX6_soonestPair_58 : decode cX6_soonestPair 58 = .ok (.istore 8, 2) := by decide +kernel
theorem dX6_soonestPair_60 : decode cX6_soonestPair 60 = .ok (.iload 8, 2) := by decide +kernel
theorem dX6_soonestPair_62 : decode cX6_soonestPair 62 = .ok (.iload 5, 2) := by decide +kernel
theorem dX6_soonestPair_64 : decode cX6_soonestPair 64 = .ok (.if_icmp .ge 37, 3) := by decide +kernel
theorem dX6_soonestPair_67 : decode cX6_soonestPair 67 = .ok (.iload 8, 2) := by decide +kernel
theorem dX6_soonestPair_69 : decode cX6_soonestPair 69 = .ok (.istore 5, 2) := by decide +kernel
theorem dX6_soonestPair_71 : decode cX6_soonestPair 71 = .ok (.aload_n 0, 1) := by decide +kernel
theorem dX6_soonestPair_72 : decode cX6_soonestPair 72 = .ok (.getfield 39, 3) := by decide +kernel
theorem dX6_soonestPair_75 : decode cX6_soonestPair 75 = .ok (.iconst 0, 1) := by decide +kernel
theorem dX6_soonestPair_76 : decode cX6_soonestPair 76 = .ok (.iload_n 2, 1) := by decide +kernel
theorem dX6_soonestPair_77 : decode cX6_soonestPair 77 = .ok (.iastore, 1) := by decide +kernel
theorem dX6_soonestPair_78 : decode cX6_soonestPair 78 = .ok (.aload_n 0, 1) := by decide +kernel
theorem dX6_soonestPair_79 : decode cX6_soonestPair 79 = .ok (.getfield 42, 3) := by decide +kernel
theorem dX6_soonestPair_82 : decode cX6_soonestPair 82 = .ok (.iconst 0, 1) := by decide +kernel
theorem dX6_soonestPair_83 : decode cX6_soonestPair 83 = .ok (.iload 6, 2) := by decide +kernel
theorem dX6_soonestPair_85 : decode cX6_soonestPair 85 = .ok (.iastore, 1) := by decide +kernel
theorem dX6_soonestPair_86 : decode cX6_soonestPair 86 = .ok (.aload_n 0, 1) := by decide +kernel
theorem dX6_soonestPair_87 : decode cX6_soonestPair 87 = .ok (.getfield 39, 3) := by decide +kernel
theorem dX6_soonestPair_90 : decode cX6_soonestPair 90 = .ok (.iconst 1, 1) := by decide +kernel
theorem dX6_soonestPair_91 : decode cX6_soonestPair 91 = .ok (.iload_n 3, 1) := by decide +kernel
theorem dX6_soonestPair_92 : decode cX6_soonestPair 92 = .ok (.iastore, 1) := by decide +kernel
theorem dX6_soonestPair_93 : decode cX6_soonestPair 93 = .ok (.aload_n 0, 1) := by decide +kernel
theorem dX6_soonestPair_94 : decode cX6_soonestPair 94 = .ok (.getfield 42, 3) := by decide +kernel
theorem dX6_soonestPair_97 : decode cX6_soonestPair 97 = .ok (.iconst 1, 1) := by decide +kernel
theorem dX6_soonestPair_98 : decode cX6_soonestPair 98 = .ok (.iload 7, 2) := by decide +kernel
theorem dX6_soonestPair_100 : decode cX6_soonestPair 100 = .ok (.iastore, 1) := by decide +kernel
theorem dX6_soonestPair_101 : decode cX6_soonestPair 101 = .ok (.iinc 7 1, 3) := by decide +kernel
theorem dX6_soonestPair_104 : decode cX6_soonestPair 104 = .ok (.goto (-84), 3) := by decide +kernel
theorem dX6_soonestPair_107 : decode cX6_soonestPair 107 = .ok (.iinc 6 1, 3) := by decide +kernel
theorem dX6_soonestPair_110 : decode cX6_soonestPair 110 = .ok (.goto (-103), 3) := by decide +kernel
theorem dX6_soonestPair_113 : decode cX6_soonestPair 113 = .ok (.iload 5, 2) := by decide +kernel
theorem dX6_soonestPair_115 : decode cX6_soonestPair 115 = .ok (.ireturn, 1) := by decide +kernel
