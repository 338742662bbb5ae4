theorem dX7_init_0 : decode cX7_init 0 = .ok (.aload_n 0, 1) := by decide +kernel
theorem dX7_init_1 : decode cX7_init 1 = .ok (.invokespecial 3, 3) := by decide +kernel
theorem dX7_init_4 : decode cX7_init 4 = .ok (.aload_n 0, 1) := by decide +kernel
theorem dX7_init_5 : decode cX7_init 5 = .ok (.sipush 160, 3) := by decide +kernel
theorem dX7_init_8 : decode cX7_init 8 = .ok (.newarray .int, 2) := by decide +kernel
theorem dX7_init_10 : decode cX7_init 10 = .ok (.putfield 11, 3) := by decide +kernel
theorem dX7_init_13 : decode cX7_init 13 = .ok (.aload_n 0, 1) := by decide +kernel
theorem dX7_init_14 : decode cX7_init 14 = .ok (.sipush 161, 3) := by decide +kernel
theorem dX7_init_17 : decode cX7_init 17 = .ok (.newarray .int, 2) := by decide +kernel
theorem dX7_init_19 : decode cX7_init 19 = .ok (.putfield 15, 3) := by decide +kernel
theorem dX7_init_22 : decode cX7_init 22 = .ok (.return_, 1) := by decide +kernel
theorem dX7_fed_0 : decode cX7_fed 0 = .ok (.aload_n 0, 1) := by decide +kernel
theorem dX7_fed_1 : decode cX7_fed 1 = .ok (.getfield 18, 3) := by decide +kernel
theorem dX7_fed_4 : decode cX7_fed 4 = .ok (.iload_n 1, 1) := by decide +kernel
theorem dX7_fed_5 : decode cX7_fed 5 = .ok (.iadd, 1) := by decide +kernel
theorem dX7_fed_6 : decode cX7_fed 6 = .ok (.sipush 160, 3) := by decide +kernel
theorem dX7_fed_9 : decode cX7_fed 9 = .ok (.if_icmp .le 6, 3) := by decide +kernel
theorem dX7_fed_12 : decode cX7_fed 12 = .ok (.bipush (-3), 2) := by decide +kernel
theorem dX7_fed_14 : decode cX7_fed 14 = .ok (.ireturn, 1) := by decide +kernel
theorem dX7_fed_15 : decode cX7_fed 15 = .ok (.iconst 0, 1) := by decide +kernel
theorem dX7_fed_16 : decode cX7_fed 16 = .ok (.istore_n 3, 1) := by decide +kernel
theorem dX7_fed_17 : decode cX7_fed 17 = .ok (.iload_n 3, 1) := by decide +kernel
theorem dX7_fed_18 : decode cX7_fed 18 = .ok (.iload_n 1, 1) := by decide +kernel
theorem dX7_fed_19 : decode cX7_fed 19 = .ok (.if_icmp .ge 38, 3) := by decide +kernel
theorem dX7_fed_22 : decode cX7_fed 22 = .ok (.aload_n 0, 1) := by decide +kernel
theorem dX7_fed_23 : decode cX7_fed 23 = .ok (.getfield 11, 3) := by decide +kernel
theorem dX7_fed_26 : decode cX7_fed 26 = .ok (.aload_n 0, 1) := by decide +kernel
theorem dX7_fed_27 : decode cX7_fed 27 = .ok (.getfield 18, 3) := by decide +kernel
theorem dX7_fed_30 : decode cX7_fed 30 = .ok (.iload_n 2, 1) := by decide +kernel
theorem dX7_fed_31 : decode cX7_fed 31 = .ok (.bipush 8, 2) := by decide +kernel
theorem dX7_fed_33 : decode cX7_fed 33 = .ok (.iload_n 3, 1) := by decide +kernel
theorem dX7_fed_34 : decode cX7_fed 34 = .ok (.imul, 1) := by decide +kernel
theorem dX7_fed_35 : decode cX7_fed 35 = .ok (.ishr, 1) := by decide +kernel
theorem dX7_fed_36 : decode cX7_fed 36 = .ok (.sipush 255, 3) := by decide +kernel
theorem dX7_fed_39 : decode cX7_fed 39 = .ok (.iand, 1) := by decide +kernel
theorem dX7_fed_40 : decode cX7_fed 40 = .ok (.iastore, 1) := by decide +kernel
theorem dX7_fed_41 : decode cX7_fed 41 = .ok (.aload_n 0, 1) := by decide +kernel
theorem dX7_fed_42 : decode cX7_fed 42 = .ok (.dup, 1) := by decide +kernel
theorem dX7_fed_43 : decode cX7_fed 43 = .ok (.getfield 18, 3) := by decide +kernel
theorem dX7_fed_46 : decode cX7_fed 46 = .ok (.iconst 1, 1) := by decide +kernel
theorem dX7_fed_47 : decode cX7_fed 47 = .ok (.iadd, 1) := by decide +kernel
theorem dX7_fed_48 : decode cX7_fed 48 = .ok (.putfield 18, 3) := by decide +kernel
theorem dX7_fed_51 : decode cX7_fed 51 = .ok (.iinc 3 1, 3) := by decide +kernel
theorem dX7_fed_54 : decode cX7_fed 54 = .ok (.goto (-37), 3) := by decide +kernel
theorem dX7_fed_57 : decode cX7_fed 57 = .ok (.aload_n 0, 1) := by decide +kernel
theorem dX7_fed_58 : decode cX7_fed 58 = .ok (.getfield 18, 3) := by decide +kernel
theorem dX7_fed_61 : decode cX7_fed 61 = .ok (.ireturn, 1) := by decide +kernel
theorem dX7_code_0 : decode cX7_code 0 = .ok (.aload_n 0, 1) := by decide +kernel
theorem dX7_code_1 : decode cX7_code 1 = .ok (.getfield 15, 3) := by decide +kernel
theorem dX7_code_4 : decode cX7_code 4 = .ok (.aload_n 0, 1) := by decide +kernel
theorem dX7_code_5 : decode cX7_code 5 = .ok (.getfield 22, 3) := by decide +kernel
theorem dX7_code_8 : decode cX7_code 8 = .ok (.invokestatic 25, 3) := by decide +kernel
theorem dX7_code_11 : decode cX7_code 11 = .ok (.areturn, 1) := by decide +kernel
theorem dX7_compiled_0 : decode cX7_compiled 0 = .ok (.aload_n 0, 1) := by decide +kernel
theorem dX7_compiled_1 : decode cX7_compiled 1 = .ok (.iconst 0, 1) := by decide +kernel
theorem dX7_compiled_2 : decode cX7_compiled 2 = .ok (.putfield 22, 3) := by decide +kernel
theorem dX7_compiled_5 : decode cX7_compiled 5 = .ok (.aload_n 0, 1) := by decide +kernel
theorem dX7_compiled_6 : decode cX7_compiled 6 = .ok (.iconst 0, 1) := by decide +kernel
theorem dX7_compiled_7 : decode cX7_compiled 7 = .ok (.putfield 31, 3) := by decide +kernel
theorem dX7_compiled_10 : decode cX7_compiled 10 = .ok (.aload_n 0, 1) := by decide +kernel
theorem dX7_compiled_11 : decode cX7_compiled 11 = .ok (.iconst (-1), 1) := by decide +kernel
theorem dX7_compiled_12 : decode cX7_compiled 12 = .ok (.putfield 34, 3) := by decide +kernel
theorem dX7_compiled_15 : decode cX7_compiled 15 = .ok (.aload_n 0, 1) := by decide +kernel
theorem dX7_compiled_16 : decode cX7_compiled 16 = .ok (.invokevirtual 37, 3) := by decide +kernel
theorem dX7_compiled_19 : decode cX7_compiled 19 = .ok (.iconst 0, 1) := by decide +kernel
theorem dX7_compiled_20 : decode cX7_compiled 20 = .ok (.istore_n 1, 1) := by decide +kernel
theorem dX7_compiled_21 : decode cX7_compiled 21 = .ok (.iload_n 1, 1) := by decide +kernel
theorem dX7_compiled_22 : decode cX7_compiled 22 = .ok (.sipush 160, 3) := by decide +kernel
theorem dX7_compiled_25 : decode cX7_compiled 25 = .ok (.if_icmp .ge 22, 3) := by decide +kernel
theorem dX7_compiled_28 : decode cX7_compiled 28 = .ok (.aload_n 0, 1) := by decide +kernel
theorem dX7_compiled_29 : decode cX7_compiled 29 = .ok (.bipush 59, 2) := by decide +kernel
theorem dX7_compiled_31 : decode cX7_compiled 31 = .ok (.invokevirtual 40, 3) := by decide +kernel
theorem dX7_compiled_34 : decode cX7_compiled 34 = .ok (.ifCond .eq 13, 3) := by decide +kernel
theorem dX7_compiled_37 : decode cX7_compiled 37 = .ok (.aload_n 0, 1) := by decide +kernel
theorem dX7_compiled_38 : decode cX7_compiled 38 = .ok (.invokevirtual 37, 3) := by decide +kernel
theorem dX7_compiled_41 : decode cX7_compiled 41 = .ok (.iinc 1 1, 3) := by decide +kernel
theorem dX7_compiled_44 : decode cX7_compiled 44 = .ok (.goto (-23), 3) := by decide +kernel
theorem dX7_compiled_47 : decode cX7_compiled 47 = .ok (.aload_n 0, 1) := by decide +kernel
theorem dX7_compiled_48 : decode cX7_compiled 48 = .ok (.getfield 34, 3) := by decide +kernel
theorem dX7_compiled_51 : decode cX7_compiled 51 = .ok (.ifCond .ge 22, 3) := by decide +kernel
theorem dX7_compiled_54 : decode cX7_compiled 54 = .ok (.aload_n 0, 1) := by decide +kernel
theorem dX7_compiled_55 : decode cX7_compiled 55 = .ok (.getfield 31, 3) := by decide +kernel
theorem dX7_compiled_58 : decode cX7_compiled 58 = .ok (.aload_n 0, 1) := by decide +kernel
theorem dX7_compiled_59 : decode cX7_compiled 59 = .ok (.getfield 18, 3) := by decide +kernel
theorem dX7_compiled_62 : decode cX7_compiled 62 = .ok (.if_icmp .ge 11, 3) := by decide +kernel
theorem dX7_compiled_65 : decode cX7_compiled 65 = .ok (.aload_n 0, 1) := by decide +kernel
theorem dX7_compiled_66 : decode cX7_compiled 66 = .ok (.aload_n 0, 1) := by decide +kernel
theorem dX7_compiled_67 : decode cX7_compiled 67 = .ok (.getfield 31, 3) := by decide +kernel
theorem dX7_compiled_70 : decode cX7_compiled 70 = .ok (.putfield 34, 3) := by decide +kernel
theorem dX7_compiled_73 : decode cX7_compiled 73 = .ok (.aload_n 0, 1) := by decide +kernel
theorem dX7_compiled_74 : decode cX7_compiled 74 = .ok (.getfield 34, 3) := by decide +kernel
theorem dX7_compiled_77 : decode cX7_compiled 77 = .ok (.ireturn, 1) := by decide +kernel
theorem dX7_line_0 : decode cX7_line 0 = .ok (.aload_n 0, 1) := by decide +kernel
theorem dX7_line_1 : decode cX7_line 1 = .ok (.iconst 0, 1) := by decide +kernel
theorem dX7_line_2 : decode cX7_line 2 = .ok (.invokevirtual 44, 3) := by decide +kernel
theorem dX7_line_5 : decode cX7_line 5 = .ok (.aload_n 0, 1) := by decide +kernel
theorem dX7_line_6 : decode cX7_line 6 = .ok (.bipush 63, 2) := by decide +kernel
theorem dX7_line_8 : decode cX7_line 8 = .ok (.invokevirtual 40, 3) := by decide +kernel
theorem dX7_line_11 : decode cX7_line 11 = .ok (.ifCond .eq 14, 3) := by decide +kernel
theorem dX7_line_14 : decode cX7_line 14 = .ok (.aload_n 0, 1) := by decide +kernel
theorem dX7_line_15 : decode cX7_line 15 = .ok (.bipush (-23), 2) := by decide +kernel
theorem dX7_line_17 : decode cX7_line 17 = .ok (.invokevirtual 50, 3) := by decide +kernel
theorem dX7_line_20 : decode cX7_line 20 = .ok (.aload_n 0, 1) := by decide +kernel
theorem dX7_line_21 : decode cX7_line 21 = .ok (.iconst 0, 1) := by decide +kernel
theorem dX7_line_22 : decode cX7_line 22 = .ok (.invokevirtual 44, 3) := by decide +kernel
theorem dX7_line_25 : decode cX7_line 25 = .ok (.aload_n 0, 1) := by decide +kernel
theorem dX7_line_26 : decode cX7_line 26 = .ok (.bipush (-24), 2) := by decide +kernel
theorem dX7_line_28 : decode cX7_line 28 = .ok (.invokevirtual 50, 3) := by decide +kernel
theorem dX7_line_31 : decode cX7_line 31 = .ok (.return_, 1) := by decide +kernel
theorem dX7_either_0 : decode cX7_either 0 = .ok (.aload_n 0, 1) := by decide +kernel
theorem dX7_either_1 : decode cX7_either 1 = .ok (.iload_n 1, 1) := by decide +kernel
theorem dX7_either_2 : decode cX7_either 2 = .ok (.invokevirtual 53, 3) := by decide +kernel
theorem dX7_either_5 : decode cX7_either 5 = .ok (.iconst 0, 1) := by decide +kernel
theorem dX7_either_6 : decode cX7_either 6 = .ok (.istore_n 2, 1) := by decide +kernel
theorem dX7_either_7 : decode cX7_either 7 = .ok (.iload_n 2, 1) := by decide +kernel
theorem dX7_either_8 : decode cX7_either 8 = .ok (.sipush 160, 3) := by decide +kernel
theorem dX7_either_11 : decode cX7_either 11 = .ok (.if_icmp .ge 29, 3) := by decide +kernel
theorem dX7_either_14 : decode cX7_either 14 = .ok (.aload_n 0, 1) := by decide +kernel
theorem dX7_either_15 : decode cX7_either 15 = .ok (.bipush 124, 2) := by decide +kernel
theorem dX7_either_17 : decode cX7_either 17 = .ok (.invokevirtual 40, 3) := by decide +kernel
theorem dX7_either_20 : decode cX7_either 20 = .ok (.ifCond .eq 20, 3) := by decide +kernel
theorem dX7_either_23 : decode cX7_either 23 = .ok (.aload_n 0, 1) := by decide +kernel
theorem dX7_either_24 : decode cX7_either 24 = .ok (.iload_n 1, 1) := by decide +kernel
theorem dX7_either_25 : decode cX7_either 25 = .ok (.invokevirtual 53, 3) := by decide +kernel
theorem dX7_either_28 : decode cX7_either 28 = .ok (.aload_n 0, 1) := by decide +kernel
theorem dX7_either_29 : decode cX7_either 29 = .ok (.bipush (-11), 2) := by decide +kernel
theorem dX7_either_31 : decode cX7_either 31 = .ok (.invokevirtual 50, 3) := by decide +kernel
theorem dX7_either_34 : decode cX7_either 34 = .ok (.iinc 2 1, 3) := by decide +kernel
theorem dX7_either_37 : decode cX7_either 37 = .ok (.goto (-30), 3) := by decide +kernel
theorem dX7_either_40 : decode cX7_either 40 = .ok (.return_, 1) := by decide +kernel
theorem dX7_both_0 : decode cX7_both 0 = .ok (.aload_n 0, 1) := by decide +kernel
theorem dX7_both_1 : decode cX7_both 1 = .ok (.iload_n 1, 1) := by decide +kernel
theorem dX7_both_2 : decode cX7_both 2 = .ok (.invokevirtual 56, 3) := by decide +kernel
theorem dX7_both_5 : decode cX7_both 5 = .ok (.iconst 0, 1) := by decide +kernel
theorem dX7_both_6 : decode cX7_both 6 = .ok (.istore_n 2, 1) := by decide +kernel
theorem dX7_both_7 : decode cX7_both 7 = .ok (.iload_n 2, 1) := by decide +kernel
theorem dX7_both_8 : decode cX7_both 8 = .ok (.sipush 160, 3) := by decide +kernel
theorem dX7_both_11 : decode cX7_both 11 = .ok (.if_icmp .ge 29, 3) := by decide +kernel
theorem dX7_both_14 : decode cX7_both 14 = .ok (.aload_n 0, 1) := by decide +kernel
theorem dX7_both_15 : decode cX7_both 15 = .ok (.bipush 38, 2) := by decide +kernel
theorem dX7_both_17 : decode cX7_both 17 = .ok (.invokevirtual 40, 3) := by decide +kernel
theorem dX7_both_20 : decode cX7_both 20 = .ok (.ifCond .eq 20, 3) := by decide +kernel
theorem dX7_both_23 : decode cX7_both 23 = .ok (.aload_n 0, 1) := by decide +kernel
theorem dX7_both_24 : decode cX7_both 24 = .ok (.iload_n 1, 1) := by decide +kernel
theorem dX7_both_25 : decode cX7_both 25 = .ok (.invokevirtual 56, 3) := by decide +kernel
theorem dX7_both_28 : decode cX7_both 28 = .ok (.aload_n 0, 1) := by decide +kernel
theorem dX7_both_29 : decode cX7_both 29 = .ok (.bipush (-12), 2) := by decide +kernel
theorem dX7_both_31 : decode cX7_both 31 = .ok (.invokevirtual 50, 3) := by decide +kernel
theorem dX7_both_34 : decode cX7_both 34 = .ok (.iinc 2 1, 3) := by decide +kernel
theorem dX7_both_37 : decode cX7_both 37 = .ok (.goto (-30), 3) := by decide +kernel
theorem dX7_both_40 : decode cX7_both 40 = .ok (.return_, 1) := by decide +kernel
theorem dX7_compared_0 : decode cX7_compared 0 = .ok (.aload_n 0, 1) := by decide +kernel
theorem dX7_compared_1 : decode cX7_compared 1 = .ok (.iload_n 1, 1) := by decide +kernel
theorem dX7_compared_2 : decode cX7_compared 2 = .ok (.invokevirtual 59, 3) := by decide +kernel
theorem dX7_compared_5 : decode cX7_compared 5 = .ok (.aload_n 0, 1) := by decide +kernel
theorem dX7_compared_6 : decode cX7_compared 6 = .ok (.bipush 60, 2) := by decide +kernel
theorem dX7_compared_8 : decode cX7_compared 8 = .ok (.invokevirtual 40, 3) := by decide +kernel
theorem dX7_compared_11 : decode cX7_compared 11 = .ok (.ifCond .eq 8, 3) := by decide +kernel
theorem dX7_compared_14 : decode cX7_compared 14 = .ok (.bipush (-13), 2) := by decide +kernel
theorem dX7_compared_16 : decode cX7_compared 16 = .ok (.goto 32, 3) := by decide +kernel
theorem dX7_compared_19 : decode cX7_compared 19 = .ok (.aload_n 0, 1) := by decide +kernel
theorem dX7_compared_20 : decode cX7_compared 20 = .ok (.bipush 61, 2) := by decide +kernel
theorem dX7_compared_22 : decode cX7_compared 22 = .ok (.invokevirtual 40, 3) := by decide +kernel
theorem dX7_compared_25 : decode cX7_compared 25 = .ok (.ifCond .eq 8, 3) := by decide +kernel
theorem dX7_compared_28 : decode cX7_compared 28 = .ok (.bipush (-14), 2) := by decide +kernel
theorem dX7_compared_30 : decode cX7_compared 30 = .ok (.goto 18, 3) := by decide +kernel
theorem dX7_compared_33 : decode cX7_compared 33 = .ok (.aload_n 0, 1) := by decide +kernel
theorem dX7_compared_34 : decode cX7_compared 34 = .ok (.bipush 62, 2) := by decide +kernel
theorem dX7_compared_36 : decode cX7_compared 36 = .ok (.invokevirtual 40, 3) := by decide +kernel
theorem dX7_compared_39 : decode cX7_compared 39 = .ok (.ifCond .eq 8, 3) := by decide +kernel
theorem dX7_compared_42 : decode cX7_compared 42 = .ok (.bipush (-15), 2) := by decide +kernel
theorem dX7_compared_44 : decode cX7_compared 44 = .ok (.goto 4, 3) := by decide +kernel
theorem dX7_compared_47 : decode cX7_compared 47 = .ok (.iconst 0, 1) := by decide +kernel
theorem dX7_compared_48 : decode cX7_compared 48 = .ok (.istore_n 2, 1) := by decide +kernel
theorem dX7_compared_49 : decode cX7_compared 49 = .ok (.iload_n 2, 1) := by decide +kernel
theorem dX7_compared_50 : decode cX7_compared 50 = .ok (.ifCond .eq 13, 3) := by decide +kernel
theorem dX7_compared_53 : decode cX7_compared 53 = .ok (.aload_n 0, 1) := by decide +kernel
theorem dX7_compared_54 : decode cX7_compared 54 = .ok (.iload_n 1, 1) := by decide +kernel
theorem dX7_compared_55 : decode cX7_compared 55 = .ok (.invokevirtual 59, 3) := by decide +kernel
theorem dX7_compared_58 : decode cX7_compared 58 = .ok (.aload_n 0, 1) := by decide +kernel
theorem dX7_compared_59 : decode cX7_compared 59 = .ok (.iload_n 2, 1) := by decide +kernel
theorem dX7_compared_60 : decode cX7_compared 60 = .ok (.invokevirtual 50, 3) := by decide +kernel
theorem dX7_compared_63 : decode cX7_compared 63 = .ok (.return_, 1) := by decide +kernel
theorem dX7_sum_0 : decode cX7_sum 0 = .ok (.aload_n 0, 1) := by decide +kernel
theorem dX7_sum_1 : decode cX7_sum 1 = .ok (.iload_n 1, 1) := by decide +kernel
theorem dX7_sum_2 : decode cX7_sum 2 = .ok (.invokevirtual 62, 3) := by decide +kernel
theorem dX7_sum_5 : decode cX7_sum 5 = .ok (.aload_n 0, 1) := by decide +kernel
theorem dX7_sum_6 : decode cX7_sum 6 = .ok (.invokevirtual 65, 3) := by decide +kernel
theorem dX7_sum_9 : decode cX7_sum 9 = .ok (.istore_n 2, 1) := by decide +kernel
theorem dX7_sum_10 : decode cX7_sum 10 = .ok (.iconst 0, 1) := by decide +kernel
theorem dX7_sum_11 : decode cX7_sum 11 = .ok (.istore_n 3, 1) := by decide +kernel
theorem dX7_sum_12 : decode cX7_sum 12 = .ok (.iload_n 3, 1) := by decide +kernel
theorem dX7_sum_13 : decode cX7_sum 13 = .ok (.sipush 160, 3) := by decide +kernel
theorem dX7_sum_16 : decode cX7_sum 16 = .ok (.if_icmp .ge 28, 3) := by decide +kernel
theorem dX7_sum_19 : decode cX7_sum 19 = .ok (.iload_n 2, 1) := by decide +kernel
theorem dX7_sum_20 : decode cX7_sum 20 = .ok (.ifCond .eq 24, 3) := by decide +kernel
theorem dX7_sum_23 : decode cX7_sum 23 = .ok (.aload_n 0, 1) := by decide +kernel
theorem dX7_sum_24 : decode cX7_sum 24 = .ok (.iload_n 1, 1) := by decide +kernel
theorem dX7_sum_25 : decode cX7_sum 25 = .ok (.invokevirtual 62, 3) := by decide +kernel
theorem dX7_sum_28 : decode cX7_sum 28 = .ok (.aload_n 0, 1) := by decide +kernel
theorem dX7_sum_29 : decode cX7_sum 29 = .ok (.iload_n 2, 1) := by decide +kernel
theorem dX7_sum_30 : decode cX7_sum 30 = .ok (.invokevirtual 50, 3) := by decide +kernel
theorem dX7_sum_33 : decode cX7_sum 33 = .ok (.aload_n 0, 1) := by decide +kernel
theorem dX7_sum_34 : decode cX7_sum 34 = .ok (.invokevirtual 65, 3) := by decide +kernel
theorem dX7_sum_37 : decode cX7_sum 37 = .ok (.istore_n 2, 1) := by decide +kernel
theorem dX7_sum_38 : decode cX7_sum 38 = .ok (.iinc 3 1, 3) := by decide +kernel
theorem dX7_sum_41 : decode cX7_sum 41 = .ok (.goto (-29), 3) := by decide +kernel
theorem dX7_sum_44 : decode cX7_sum 44 = .ok (.return_, 1) := by decide +kernel
theorem dX7_plusOrMinus_0 : decode cX7_plusOrMinus 0 = .ok (.aload_n 0, 1) := by decide +kernel
theorem dX7_plusOrMinus_1 : decode cX7_plusOrMinus 1 = .ok (.bipush 43, 2) := by decide +kernel
theorem dX7_plusOrMinus_3 : decode cX7_plusOrMinus 3 = .ok (.invokevirtual 40, 3) := by decide +kernel
theorem dX7_plusOrMinus_6 : decode cX7_plusOrMinus 6 = .ok (.ifCond .eq 8, 3) := by decide +kernel
theorem dX7_plusOrMinus_9 : decode cX7_plusOrMinus 9 = .ok (.bipush (-16), 2) := by decide +kernel
theorem dX7_plusOrMinus_11 : decode cX7_plusOrMinus 11 = .ok (.goto 18, 3) := by decide +kernel
theorem dX7_plusOrMinus_14 : decode cX7_plusOrMinus 14 = .ok (.aload_n 0, 1) := by decide +kernel
theorem dX7_plusOrMinus_15 : decode cX7_plusOrMinus 15 = .ok (.bipush 45, 2) := by decide +kernel
theorem dX7_plusOrMinus_17 : decode cX7_plusOrMinus 17 = .ok (.invokevirtual 40, 3) := by decide +kernel
theorem dX7_plusOrMinus_20 : decode cX7_plusOrMinus 20 = .ok (.ifCond .eq 8, 3) := by decide +kernel
theorem dX7_plusOrMinus_23 : decode cX7_plusOrMinus 23 = .ok (.bipush (-17), 2) := by decide +kernel
theorem dX7_plusOrMinus_25 : decode cX7_plusOrMinus 25 = .ok (.goto 4, 3) := by decide +kernel
theorem dX7_plusOrMinus_28 : decode cX7_plusOrMinus 28 = .ok (.iconst 0, 1) := by decide +kernel
theorem dX7_plusOrMinus_29 : decode cX7_plusOrMinus 29 = .ok (.ireturn, 1) := by decide +kernel
theorem dX7_product_0 : decode cX7_product 0 = .ok (.aload_n 0, 1) := by decide +kernel
theorem dX7_product_1 : decode cX7_product 1 = .ok (.iload_n 1, 1) := by decide +kernel
theorem dX7_product_2 : decode cX7_product 2 = .ok (.invokevirtual 69, 3) := by decide +kernel
theorem dX7_product_5 : decode cX7_product 5 = .ok (.aload_n 0, 1) := by decide +kernel
theorem dX7_product_6 : decode cX7_product 6 = .ok (.invokevirtual 72, 3) := by decide +kernel
theorem dX7_product_9 : decode cX7_product 9 = .ok (.istore_n 2, 1) := by decide +kernel
theorem dX7_product_10 : decode cX7_product 10 = .ok (.iconst 0, 1) := by decide +kernel
theorem dX7_product_11 : decode cX7_product 11 = .ok (.istore_n 3, 1) := by decide +kernel
theorem dX7_product_12 : decode cX7_product 12 = .ok (.iload_n 3, 1) := by decide +kernel
theorem dX7_product_13 : decode cX7_product 13 = .ok (.sipush 160, 3) := by decide +kernel
theorem dX7_product_16 : decode cX7_product 16 = .ok (.if_icmp .ge 28, 3) := by decide +kernel
theorem dX7_product_19 : decode cX7_product 19 = .ok (.iload_n 2, 1) := by decide +kernel
theorem dX7_product_20 : decode cX7_product 20 = .ok (.ifCond .eq 24, 3) := by decide +kernel
theorem dX7_product_23 : decode cX7_product 23 = .ok (.aload_n 0, 1) := by decide +kernel
theorem dX7_product_24 : decode cX7_product 24 = .ok (.iload_n 1, 1) := by decide +kernel
theorem dX7_product_25 : decode cX7_product 25 = .ok (.invokevirtual 69, 3) := by decide +kernel
theorem dX7_product_28 : decode cX7_product 28 = .ok (.aload_n 0, 1) := by decide +kernel
theorem dX7_product_29 : decode cX7_product 29 = .ok (.iload_n 2, 1) := by decide +kernel
theorem dX7_product_30 : decode cX7_product 30 = .ok (.invokevirtual 50, 3) := by decide +kernel
theorem dX7_product_33 : decode cX7_product 33 = .ok (.aload_n 0, 1) := by decide +kernel
theorem dX7_product_34 : decode cX7_product 34 = .ok (.invokevirtual 72, 3) := by decide +kernel
theorem dX7_product_37 : decode cX7_product 37 = .ok (.istore_n 2, 1) := by decide +kernel
theorem dX7_product_38 : decode cX7_product 38 = .ok (.iinc 3 1, 3) := by decide +kernel
theorem dX7_product_41 : decode cX7_product 41 = .ok (.goto (-29), 3) := by decide +kernel
theorem dX7_product_44 : decode cX7_product 44 = .ok (.return_, 1) := by decide +kernel
theorem dX7_timesOrOver_0 : decode cX7_timesOrOver 0 = .ok (.aload_n 0, 1) := by decide +kernel
theorem dX7_timesOrOver_1 : decode cX7_timesOrOver 1 = .ok (.bipush 42, 2) := by decide +kernel
theorem dX7_timesOrOver_3 : decode cX7_timesOrOver 3 = .ok (.invokevirtual 40, 3) := by decide +kernel
theorem dX7_timesOrOver_6 : decode cX7_timesOrOver 6 = .ok (.ifCond .eq 8, 3) := by decide +kernel
theorem dX7_timesOrOver_9 : decode cX7_timesOrOver 9 = .ok (.bipush (-18), 2) := by decide +kernel
theorem dX7_timesOrOver_11 : decode cX7_timesOrOver 11 = .ok (.goto 32, 3) := by decide +kernel
theorem dX7_timesOrOver_14 : decode cX7_timesOrOver 14 = .ok (.aload_n 0, 1) := by decide +kernel
theorem dX7_timesOrOver_15 : decode cX7_timesOrOver 15 = .ok (.bipush 47, 2) := by decide +kernel
theorem dX7_timesOrOver_17 : decode cX7_timesOrOver 17 = .ok (.invokevirtual 40, 3) := by decide +kernel
theorem dX7_timesOrOver_20 : decode cX7_timesOrOver 20 = .ok (.ifCond .eq 8, 3) := by decide +kernel
theorem dX7_timesOrOver_23 : decode cX7_timesOrOver 23 = .ok (.bipush (-19), 2) := by decide +kernel
theorem dX7_timesOrOver_25 : decode cX7_timesOrOver 25 = .ok (.goto 18, 3) := by decide +kernel
theorem dX7_timesOrOver_28 : decode cX7_timesOrOver 28 = .ok (.aload_n 0, 1) := by decide +kernel
theorem dX7_timesOrOver_29 : decode cX7_timesOrOver 29 = .ok (.bipush 37, 2) := by decide +kernel
theorem dX7_timesOrOver_31 : decode cX7_timesOrOver 31 = .ok (.invokevirtual 40, 3) := by decide +kernel
theorem dX7_timesOrOver_34 : decode cX7_timesOrOver 34 = .ok (.ifCond .eq 8, 3) := by decide +kernel
theorem dX7_timesOrOver_37 : decode cX7_timesOrOver 37 = .ok (.bipush (-20), 2) := by decide +kernel
theorem dX7_timesOrOver_39 : decode cX7_timesOrOver 39 = .ok (.goto 4, 3) := by decide +kernel
theorem dX7_timesOrOver_42 : decode cX7_timesOrOver 42 = .ok (.iconst 0, 1) := by decide +kernel
theorem dX7_timesOrOver_43 : decode cX7_timesOrOver 43 = .ok (.ireturn, 1) := by decide +kernel
theorem dX7_single_0 : decode cX7_single 0 = .ok (.aload_n 0, 1) := by decide +kernel
theorem dX7_single_1 : decode cX7_single 1 = .ok (.getfield 34, 3) := by decide +kernel
theorem dX7_single_4 : decode cX7_single 4 = .ok (.ifCond .lt 4, 3) := by decide +kernel
theorem dX7_single_7 : decode cX7_single 7 = .ok (.return_, 1) := by decide +kernel
theorem dX7_single_8 : decode cX7_single 8 = .ok (.aload_n 0, 1) := by decide +kernel
theorem dX7_single_9 : decode cX7_single 9 = .ok (.invokevirtual 75, 3) := by decide +kernel
theorem dX7_single_12 : decode cX7_single 12 = .ok (.ifCond .eq 10, 3) := by decide +kernel
theorem dX7_single_15 : decode cX7_single 15 = .ok (.aload_n 0, 1) := by decide +kernel
theorem dX7_single_16 : decode cX7_single 16 = .ok (.invokevirtual 79, 3) := by decide +kernel
theorem dX7_single_19 : decode cX7_single 19 = .ok (.goto 107, 3) := by decide +kernel
theorem dX7_single_22 : decode cX7_single 22 = .ok (.iload_n 1, 1) := by decide +kernel
theorem dX7_single_23 : decode cX7_single 23 = .ok (.bipush 8, 2) := by decide +kernel
theorem dX7_single_25 : decode cX7_single 25 = .ok (.if_icmp .ge 35, 3) := by decide +kernel
theorem dX7_single_28 : decode cX7_single 28 = .ok (.aload_n 0, 1) := by decide +kernel
theorem dX7_single_29 : decode cX7_single 29 = .ok (.bipush 40, 2) := by decide +kernel
theorem dX7_single_31 : decode cX7_single 31 = .ok (.invokevirtual 40, 3) := by decide +kernel
theorem dX7_single_34 : decode cX7_single 34 = .ok (.ifCond .eq 26, 3) := by decide +kernel
theorem dX7_single_37 : decode cX7_single 37 = .ok (.aload_n 0, 1) := by decide +kernel
theorem dX7_single_38 : decode cX7_single 38 = .ok (.iload_n 1, 1) := by decide +kernel
theorem dX7_single_39 : decode cX7_single 39 = .ok (.iconst 1, 1) := by decide +kernel
theorem dX7_single_40 : decode cX7_single 40 = .ok (.iadd, 1) := by decide +kernel
theorem dX7_single_41 : decode cX7_single 41 = .ok (.invokevirtual 44, 3) := by decide +kernel
theorem dX7_single_44 : decode cX7_single 44 = .ok (.aload_n 0, 1) := by decide +kernel
theorem dX7_single_45 : decode cX7_single 45 = .ok (.bipush 41, 2) := by decide +kernel
theorem dX7_single_47 : decode cX7_single 47 = .ok (.invokevirtual 40, 3) := by decide +kernel
theorem dX7_single_50 : decode cX7_single 50 = .ok (.ifCond .ne 76, 3) := by decide +kernel
theorem dX7_single_53 : decode cX7_single 53 = .ok (.aload_n 0, 1) := by decide +kernel
theorem dX7_single_54 : decode cX7_single 54 = .ok (.invokevirtual 82, 3) := by decide +kernel
theorem dX7_single_57 : decode cX7_single 57 = .ok (.goto 69, 3) := by decide +kernel
theorem dX7_single_60 : decode cX7_single 60 = .ok (.iload_n 1, 1) := by decide +kernel
theorem dX7_single_61 : decode cX7_single 61 = .ok (.bipush 8, 2) := by decide +kernel
theorem dX7_single_63 : decode cX7_single 63 = .ok (.if_icmp .ge 28, 3) := by decide +kernel
theorem dX7_single_66 : decode cX7_single 66 = .ok (.aload_n 0, 1) := by decide +kernel
theorem dX7_single_67 : decode cX7_single 67 = .ok (.bipush 33, 2) := by decide +kernel
theorem dX7_single_69 : decode cX7_single 69 = .ok (.invokevirtual 40, 3) := by decide +kernel
theorem dX7_single_72 : decode cX7_single 72 = .ok (.ifCond .eq 19, 3) := by decide +kernel
theorem dX7_single_75 : decode cX7_single 75 = .ok (.aload_n 0, 1) := by decide +kernel
theorem dX7_single_76 : decode cX7_single 76 = .ok (.iload_n 1, 1) := by decide +kernel
theorem dX7_single_77 : decode cX7_single 77 = .ok (.iconst 1, 1) := by decide +kernel
theorem dX7_single_78 : decode cX7_single 78 = .ok (.iadd, 1) := by decide +kernel
theorem dX7_single_79 : decode cX7_single 79 = .ok (.invokevirtual 69, 3) := by decide +kernel
theorem dX7_single_82 : decode cX7_single 82 = .ok (.aload_n 0, 1) := by decide +kernel
theorem dX7_single_83 : decode cX7_single 83 = .ok (.bipush (-21), 2) := by decide +kernel
theorem dX7_single_85 : decode cX7_single 85 = .ok (.invokevirtual 50, 3) := by decide +kernel
theorem dX7_single_88 : decode cX7_single 88 = .ok (.goto 38, 3) := by decide +kernel
theorem dX7_single_91 : decode cX7_single 91 = .ok (.iload_n 1, 1) := by decide +kernel
theorem dX7_single_92 : decode cX7_single 92 = .ok (.bipush 8, 2) := by decide +kernel
theorem dX7_single_94 : decode cX7_single 94 = .ok (.if_icmp .ge 28, 3) := by decide +kernel
theorem dX7_single_97 : decode cX7_single 97 = .ok (.aload_n 0, 1) := by decide +kernel
theorem dX7_single_98 : decode cX7_single 98 = .ok (.bipush 45, 2) := by decide +kernel
theorem dX7_single_100 : decode cX7_single 100 = .ok (.invokevirtual 40, 3) := by decide +kernel
theorem dX7_single_103 : decode cX7_single 103 = .ok (.ifCond .eq 19, 3) := by decide +kernel
theorem dX7_single_106 : decode cX7_single 106 = .ok (.aload_n 0, 1) := by decide +kernel
theorem dX7_single_107 : decode cX7_single 107 = .ok (.iload_n 1, 1) := by decide +kernel
theorem dX7_single_108 : decode cX7_single 108 = .ok (.iconst 1, 1) := by decide +kernel
theorem dX7_single_109 : decode cX7_single 109 = .ok (.iadd, 1) := by decide +kernel
theorem dX7_single_110 : decode cX7_single 110 = .ok (.invokevirtual 69, 3) := by decide +kernel
theorem dX7_single_113 : decode cX7_single 113 = .ok (.aload_n 0, 1) := by decide +kernel
theorem dX7_single_114 : decode cX7_single 114 = .ok (.bipush (-22), 2) := by decide +kernel
theorem dX7_single_116 : decode cX7_single 116 = .ok (.invokevirtual 50, 3) := by decide +kernel
theorem dX7_single_119 : decode cX7_single 119 = .ok (.goto 7, 3) := by decide +kernel
theorem dX7_single_122 : decode cX7_single 122 = .ok (.aload_n 0, 1) := by decide +kernel
theorem dX7_single_123 : decode cX7_single 123 = .ok (.invokevirtual 85, 3) := by decide +kernel
theorem dX7_single_126 : decode cX7_single 126 = .ok (.return_, 1) := by decide +kernel
theorem dX7_number_0 : decode cX7_number 0 = .ok (.iconst 0, 1) := by decide +kernel
theorem dX7_number_1 : decode cX7_number 1 = .ok (.istore_n 1, 1) := by decide +kernel
theorem dX7_number_2 : decode cX7_number 2 = .ok (.iconst 0, 1) := by decide +kernel
theorem dX7_number_3 : decode cX7_number 3 = .ok (.istore_n 2, 1) := by decide +kernel
theorem dX7_number_4 : decode cX7_number 4 = .ok (.iload_n 2, 1) := by decide +kernel
theorem dX7_number_5 : decode cX7_number 5 = .ok (.iconst 5, 1) := by decide +kernel
theorem dX7_number_6 : decode cX7_number 6 = .ok (.if_icmp .ge 44, 3) := by decide +kernel
theorem dX7_number_9 : decode cX7_number 9 = .ok (.aload_n 0, 1) := by decide +kernel
theorem dX7_number_10 : decode cX7_number 10 = .ok (.invokevirtual 75, 3) := by decide +kernel
theorem dX7_number_13 : decode cX7_number 13 = .ok (.ifCond .eq 37, 3) := by decide +kernel
theorem dX7_number_16 : decode cX7_number 16 = .ok (.iload_n 1, 1) := by decide +kernel
theorem dX7_number_17 : decode cX7_number 17 = .ok (.bipush 10, 2) := by decide +kernel
theorem dX7_number_19 : decode cX7_number 19 = .ok (.imul, 1) := by decide +kernel
theorem dX7_number_20 : decode cX7_number 20 = .ok (.aload_n 0, 1) := by decide +kernel
theorem dX7_number_21 : decode cX7_number 21 = .ok (.getfield 11, 3) := by decide +kernel
theorem dX7_number_24 : decode cX7_number 24 = .ok (.aload_n 0, 1) := by decide +kernel
theorem dX7_number_25 : decode cX7_number 25 = .ok (.getfield 31, 3) := by decide +kernel
theorem dX7_number_28 : decode cX7_number 28 = .ok (.iaload, 1) := by decide +kernel
theorem dX7_number_29 : decode cX7_number 29 = .ok (.iadd, 1) := by decide +kernel
theorem dX7_number_30 : decode cX7_number 30 = .ok (.bipush 48, 2) := by decide +kernel
theorem dX7_number_32 : decode cX7_number 32 = .ok (.isub, 1) := by decide +kernel
theorem dX7_number_33 : decode cX7_number 33 = .ok (.istore_n 1, 1) := by decide +kernel
theorem dX7_number_34 : decode cX7_number 34 = .ok (.aload_n 0, 1) := by decide +kernel
theorem dX7_number_35 : decode cX7_number 35 = .ok (.dup, 1) := by decide +kernel
theorem dX7_number_36 : decode cX7_number 36 = .ok (.getfield 31, 3) := by decide +kernel
theorem dX7_number_39 : decode cX7_number 39 = .ok (.iconst 1, 1) := by decide +kernel
theorem dX7_number_40 : decode cX7_number 40 = .ok (.iadd, 1) := by decide +kernel
theorem dX7_number_41 : decode cX7_number 41 = .ok (.putfield 31, 3) := by decide +kernel
theorem dX7_number_44 : decode cX7_number 44 = .ok (.iinc 2 1, 3) := by decide +kernel
theorem dX7_number_47 : decode cX7_number 47 = .ok (.goto (-43), 3) := by decide +kernel
theorem dX7_number_50 : decode cX7_number 50 = .ok (.aload_n 0, 1) := by decide +kernel
theorem dX7_number_51 : decode cX7_number 51 = .ok (.iload_n 1, 1) := by decide +kernel
theorem dX7_number_52 : decode cX7_number 52 = .ok (.invokevirtual 50, 3) := by decide +kernel
theorem dX7_number_55 : decode cX7_number 55 = .ok (.return_, 1) := by decide +kernel
theorem dX7_name_0 : decode cX7_name 0 = .ok (.aload_n 0, 1) := by decide +kernel
theorem dX7_name_1 : decode cX7_name 1 = .ok (.getfield 31, 3) := by decide +kernel
theorem dX7_name_4 : decode cX7_name 4 = .ok (.aload_n 0, 1) := by decide +kernel
theorem dX7_name_5 : decode cX7_name 5 = .ok (.getfield 18, 3) := by decide +kernel
theorem dX7_name_8 : decode cX7_name 8 = .ok (.if_icmp .ge 21, 3) := by decide +kernel
theorem dX7_name_11 : decode cX7_name 11 = .ok (.ldc 88, 2) := by decide +kernel
theorem dX7_name_13 : decode cX7_name 13 = .ok (.aload_n 0, 1) := by decide +kernel
theorem dX7_name_14 : decode cX7_name 14 = .ok (.getfield 11, 3) := by decide +kernel
theorem dX7_name_17 : decode cX7_name 17 = .ok (.aload_n 0, 1) := by decide +kernel
theorem dX7_name_18 : decode cX7_name 18 = .ok (.getfield 31, 3) := by decide +kernel
theorem dX7_name_21 : decode cX7_name 21 = .ok (.iaload, 1) := by decide +kernel
theorem dX7_name_22 : decode cX7_name 22 = .ok (.i2c, 1) := by decide +kernel
theorem dX7_name_23 : decode cX7_name 23 = .ok (.invokevirtual 90, 3) := by decide +kernel
theorem dX7_name_26 : decode cX7_name 26 = .ok (.goto 4, 3) := by decide +kernel
theorem dX7_name_29 : decode cX7_name 29 = .ok (.iconst (-1), 1) := by decide +kernel
theorem dX7_name_30 : decode cX7_name 30 = .ok (.istore_n 1, 1) := by decide +kernel
theorem dX7_name_31 : decode cX7_name 31 = .ok (.iload_n 1, 1) := by decide +kernel
theorem dX7_name_32 : decode cX7_name 32 = .ok (.ifCond .ge 8, 3) := by decide +kernel
theorem dX7_name_35 : decode cX7_name 35 = .ok (.aload_n 0, 1) := by decide +kernel
theorem dX7_name_36 : decode cX7_name 36 = .ok (.invokevirtual 82, 3) := by decide +kernel
theorem dX7_name_39 : decode cX7_name 39 = .ok (.return_, 1) := by decide +kernel
theorem dX7_name_40 : decode cX7_name 40 = .ok (.aload_n 0, 1) := by decide +kernel
theorem dX7_name_41 : decode cX7_name 41 = .ok (.dup, 1) := by decide +kernel
theorem dX7_name_42 : decode cX7_name 42 = .ok (.getfield 31, 3) := by decide +kernel
theorem dX7_name_45 : decode cX7_name 45 = .ok (.iconst 1, 1) := by decide +kernel
theorem dX7_name_46 : decode cX7_name 46 = .ok (.iadd, 1) := by decide +kernel
theorem dX7_name_47 : decode cX7_name 47 = .ok (.putfield 31, 3) := by decide +kernel
theorem dX7_name_50 : decode cX7_name 50 = .ok (.aload_n 0, 1) := by decide +kernel
theorem dX7_name_51 : decode cX7_name 51 = .ok (.iconst (-1), 1) := by decide +kernel
theorem dX7_name_52 : decode cX7_name 52 = .ok (.iload_n 1, 1) := by decide +kernel
theorem dX7_name_53 : decode cX7_name 53 = .ok (.isub, 1) := by decide +kernel
theorem dX7_name_54 : decode cX7_name 54 = .ok (.invokevirtual 50, 3) := by decide +kernel
theorem dX7_name_57 : decode cX7_name 57 = .ok (.return_, 1) := by decide +kernel
theorem dX7_isDigit_0 : decode cX7_isDigit 0 = .ok (.aload_n 0, 1) := by decide +kernel
theorem dX7_isDigit_1 : decode cX7_isDigit 1 = .ok (.getfield 31, 3) := by decide +kernel
theorem dX7_isDigit_4 : decode cX7_isDigit 4 = .ok (.aload_n 0, 1) := by decide +kernel
theorem dX7_isDigit_5 : decode cX7_isDigit 5 = .ok (.getfield 18, 3) := by decide +kernel
theorem dX7_isDigit_8 : decode cX7_isDigit 8 = .ok (.if_icmp .ge 35, 3) := by decide +kernel
theorem dX7_isDigit_11 : decode cX7_isDigit 11 = .ok (.aload_n 0, 1) := by decide +kernel
theorem dX7_isDigit_12 : decode cX7_isDigit 12 = .ok (.getfield 11, 3) := by decide +kernel
theorem dX7_isDigit_15 : decode cX7_isDigit 15 = .ok (.aload_n 0, 1) := by decide +kernel
theorem dX7_isDigit_16 : decode cX7_isDigit 16 = .ok (.getfield 31, 3) := by decide +kernel
theorem dX7_isDigit_19 : decode cX7_isDigit 19 = .ok (.iaload, 1) := by decide +kernel
theorem dX7_isDigit_20 : decode cX7_isDigit 20 = .ok (.bipush 48, 2) := by decide +kernel
theorem dX7_isDigit_22 : decode cX7_isDigit 22 = .ok (.if_icmp .lt 21, 3) := by decide +kernel
theorem dX7_isDigit_25 : decode cX7_isDigit 25 = .ok (.aload_n 0, 1) := by decide +kernel
theorem dX7_isDigit_26 : decode cX7_isDigit 26 = .ok (.getfield 11, 3) := by decide +kernel
theorem dX7_isDigit_29 : decode cX7_isDigit 29 = .ok (.aload_n 0, 1) := by decide +kernel
theorem dX7_isDigit_30 : decode cX7_isDigit 30 = .ok (.getfield 31, 3) := by decide +kernel
theorem dX7_isDigit_33 : decode cX7_isDigit 33 = .ok (.iaload, 1) := by decide +kernel
theorem dX7_isDigit_34 : decode cX7_isDigit 34 = .ok (.bipush 57, 2) := by decide +kernel
theorem dX7_isDigit_36 : decode cX7_isDigit 36 = .ok (.if_icmp .gt 7, 3) := by decide +kernel
theorem dX7_isDigit_39 : decode cX7_isDigit 39 = .ok (.iconst 1, 1) := by decide +kernel
theorem dX7_isDigit_40 : decode cX7_isDigit 40 = .ok (.goto 4, 3) := by decide +kernel
theorem dX7_isDigit_43 : decode cX7_isDigit 43 = .ok (.iconst 0, 1) := by decide +kernel
theorem dX7_isDigit_44 : decode cX7_isDigit 44 = .ok (.ireturn, 1) := by decide +kernel
theorem dX7_takes_0 : decode cX7_takes 0 = .ok (.aload_n 0, 1) := by decide +kernel
theorem dX7_takes_1 : decode cX7_takes 1 = .ok (.getfield 34, 3) := by decide +kernel
theorem dX7_takes_4 : decode cX7_takes 4 = .ok (.ifCond .ge 27, 3) := by decide +kernel
theorem dX7_takes_7 : decode cX7_takes 7 = .ok (.aload_n 0, 1) := by decide +kernel
theorem dX7_takes_8 : decode cX7_takes 8 = .ok (.getfield 31, 3) := by decide +kernel
theorem dX7_takes_11 : decode cX7_takes 11 = .ok (.aload_n 0, 1) := by decide +kernel
theorem dX7_takes_12 : decode cX7_takes 12 = .ok (.getfield 18, 3) := by decide +kernel
theorem dX7_takes_15 : decode cX7_takes 15 = .ok (.if_icmp .ge 16, 3) := by decide +kernel
theorem dX7_takes_18 : decode cX7_takes 18 = .ok (.aload_n 0, 1) := by decide +kernel
theorem dX7_takes_19 : decode cX7_takes 19 = .ok (.getfield 11, 3) := by decide +kernel
theorem dX7_takes_22 : decode cX7_takes 22 = .ok (.aload_n 0, 1) := by decide +kernel
theorem dX7_takes_23 : decode cX7_takes 23 = .ok (.getfield 31, 3) := by decide +kernel
theorem dX7_takes_26 : decode cX7_takes 26 = .ok (.iaload, 1) := by decide +kernel
theorem dX7_takes_27 : decode cX7_takes 27 = .ok (.iload_n 1, 1) := by decide +kernel
theorem dX7_takes_28 : decode cX7_takes 28 = .ok (.if_icmp .eq 5, 3) := by decide +kernel
theorem dX7_takes_31 : decode cX7_takes 31 = .ok (.iconst 0, 1) := by decide +kernel
theorem dX7_takes_32 : decode cX7_takes 32 = .ok (.ireturn, 1) := by decide +kernel
theorem dX7_takes_33 : decode cX7_takes 33 = .ok (.aload_n 0, 1) := by decide +kernel
theorem dX7_takes_34 : decode cX7_takes 34 = .ok (.dup, 1) := by decide +kernel
theorem dX7_takes_35 : decode cX7_takes 35 = .ok (.getfield 31, 3) := by decide +kernel
theorem dX7_takes_38 : decode cX7_takes 38 = .ok (.iconst 1, 1) := by decide +kernel
theorem dX7_takes_39 : decode cX7_takes 39 = .ok (.iadd, 1) := by decide +kernel
theorem dX7_takes_40 : decode cX7_takes 40 = .ok (.putfield 31, 3) := by decide +kernel
theorem dX7_takes_43 : decode cX7_takes 43 = .ok (.iconst 1, 1) := by decide +kernel
theorem dX7_takes_44 : decode cX7_takes 44 = .ok (.ireturn, 1) := by decide +kernel
theorem dX7_fails_0 : decode cX7_fails 0 = .ok (.aload_n 0, 1) := by decide +kernel
theorem dX7_fails_1 : decode cX7_fails 1 = .ok (.getfield 34, 3) := by decide +kernel
theorem dX7_fails_4 : decode cX7_fails 4 = .ok (.ifCond .ge 11, 3) := by decide +kernel
theorem dX7_fails_7 : decode cX7_fails 7 = .ok (.aload_n 0, 1) := by decide +kernel
theorem dX7_fails_8 : decode cX7_fails 8 = .ok (.aload_n 0, 1) := by decide +kernel
theorem dX7_fails_9 : decode cX7_fails 9 = .ok (.getfield 31, 3) := by decide +kernel
theorem dX7_fails_12 : decode cX7_fails 12 = .ok (.putfield 34, 3) := by decide +kernel
theorem dX7_fails_15 : decode cX7_fails 15 = .ok (.return_, 1) := by decide +kernel
theorem dX7_emit_0 : decode cX7_emit 0 = .ok (.aload_n 0, 1) := by decide +kernel
theorem dX7_emit_1 : decode cX7_emit 1 = .ok (.getfield 34, 3) := by decide +kernel
theorem dX7_emit_4 : decode cX7_emit 4 = .ok (.ifCond .ge 35, 3) := by decide +kernel
theorem dX7_emit_7 : decode cX7_emit 7 = .ok (.aload_n 0, 1) := by decide +kernel
theorem dX7_emit_8 : decode cX7_emit 8 = .ok (.getfield 22, 3) := by decide +kernel
theorem dX7_emit_11 : decode cX7_emit 11 = .ok (.aload_n 0, 1) := by decide +kernel
theorem dX7_emit_12 : decode cX7_emit 12 = .ok (.getfield 15, 3) := by decide +kernel
theorem dX7_emit_15 : decode cX7_emit 15 = .ok (.arraylength, 1) := by decide +kernel
theorem dX7_emit_16 : decode cX7_emit 16 = .ok (.if_icmp .ge 23, 3) := by decide +kernel
theorem dX7_emit_19 : decode cX7_emit 19 = .ok (.aload_n 0, 1) := by decide +kernel
theorem dX7_emit_20 : decode cX7_emit 20 = .ok (.getfield 15, 3) := by decide +kernel
theorem dX7_emit_23 : decode cX7_emit 23 = .ok (.aload_n 0, 1) := by decide +kernel
theorem dX7_emit_24 : decode cX7_emit 24 = .ok (.getfield 22, 3) := by decide +kernel
theorem dX7_emit_27 : decode cX7_emit 27 = .ok (.iload_n 1, 1) := by decide +kernel
theorem dX7_emit_28 : decode cX7_emit 28 = .ok (.iastore, 1) := by decide +kernel
theorem dX7_emit_29 : decode cX7_emit 29 = .ok (.aload_n 0, 1) := by decide +kernel
theorem dX7_emit_30 : decode cX7_emit 30 = .ok (.dup, 1) := by decide +kernel
theorem dX7_emit_31 : decode cX7_emit 31 = .ok (.getfield 22, 3) := by decide +kernel
theorem dX7_emit_34 : decode cX7_emit 34 = .ok (.iconst 1, 1) := by decide +kernel
theorem dX7_emit_35 : decode cX7_emit 35 = .ok (.iadd, 1) := by decide +kernel
theorem dX7_emit_36 : decode cX7_emit 36 = .ok (.putfield 22, 3) := by decide +kernel
theorem dX7_emit_39 : decode cX7_emit 39 = .ok (.return_, 1) := by decide +kernel
theorem dX8_init_0 : decode cX8_init 0 = .ok (.aload_n 0, 1) := by decide +kernel
theorem dX8_init_1 : decode cX8_init 1 = .ok (.invokespecial 5, 3) := by decide +kernel
theorem dX8_init_4 : decode cX8_init 4 = .ok (.aload_n 0, 1) := by decide +kernel
theorem dX8_init_5 : decode cX8_init 5 = .ok (.bipush 60, 2) := by decide +kernel
theorem dX8_init_7 : decode cX8_init 7 = .ok (.newarray .long, 2) := by decide +kernel
theorem dX8_init_9 : decode cX8_init 9 = .ok (.putfield 11, 3) := by decide +kernel
theorem dX8_init_12 : decode cX8_init 12 = .ok (.return_, 1) := by decide +kernel
theorem dX8_isReal_0 : decode cX8_isReal 0 = .ok (.aload_n 0, 1) := by decide +kernel
theorem dX8_isReal_1 : decode cX8_isReal 1 = .ok (.getfield 15, 3) := by decide +kernel
theorem dX8_isReal_4 : decode cX8_isReal 4 = .ok (.iconst 2, 1) := by decide +kernel
theorem dX8_isReal_5 : decode cX8_isReal 5 = .ok (.if_icmp .ne 23, 3) := by decide +kernel
theorem dX8_isReal_8 : decode cX8_isReal 8 = .ok (.aload_n 0, 1) := by decide +kernel
theorem dX8_isReal_9 : decode cX8_isReal 9 = .ok (.getfield 19, 3) := by decide +kernel
theorem dX8_isReal_12 : decode cX8_isReal 12 = .ok (.iconst 3, 1) := by decide +kernel
theorem dX8_isReal_13 : decode cX8_isReal 13 = .ok (.if_icmp .eq 11, 3) := by decide +kernel
theorem dX8_isReal_16 : decode cX8_isReal 16 = .ok (.aload_n 0, 1) := by decide +kernel
theorem dX8_isReal_17 : decode cX8_isReal 17 = .ok (.getfield 19, 3) := by decide +kernel
theorem dX8_isReal_20 : decode cX8_isReal 20 = .ok (.iconst 4, 1) := by decide +kernel
theorem dX8_isReal_21 : decode cX8_isReal 21 = .ok (.if_icmp .ne 7, 3) := by decide +kernel
theorem dX8_isReal_24 : decode cX8_isReal 24 = .ok (.iconst 1, 1) := by decide +kernel
theorem dX8_isReal_25 : decode cX8_isReal 25 = .ok (.goto 4, 3) := by decide +kernel
theorem dX8_isReal_28 : decode cX8_isReal 28 = .ok (.iconst 0, 1) := by decide +kernel
theorem dX8_isReal_29 : decode cX8_isReal 29 = .ok (.ireturn, 1) := by decide +kernel
theorem dX8_becomesRow_0 : decode cX8_becomesRow 0 = .ok (.aload_n 0, 1) := by decide +kernel
theorem dX8_becomesRow_1 : decode cX8_becomesRow 1 = .ok (.iconst 2, 1) := by decide +kernel
theorem dX8_becomesRow_2 : decode cX8_becomesRow 2 = .ok (.putfield 15, 3) := by decide +kernel
theorem dX8_becomesRow_5 : decode cX8_becomesRow 5 = .ok (.aload_n 0, 1) := by decide +kernel
theorem dX8_becomesRow_6 : decode cX8_becomesRow 6 = .ok (.iload_n 1, 1) := by decide +kernel
theorem dX8_becomesRow_7 : decode cX8_becomesRow 7 = .ok (.putfield 19, 3) := by decide +kernel
theorem dX8_becomesRow_10 : decode cX8_becomesRow 10 = .ok (.aload_n 0, 1) := by decide +kernel
theorem dX8_becomesRow_11 : decode cX8_becomesRow 11 = .ok (.iload_n 2, 1) := by decide +kernel
theorem dX8_becomesRow_12 : decode cX8_becomesRow 12 = .ok (.putfield 22, 3) := by decide +kernel
theorem dX8_becomesRow_15 : decode cX8_becomesRow 15 = .ok (.aload_n 0, 1) := by decide +kernel
theorem dX8_becomesRow_16 : decode cX8_becomesRow 16 = .ok (.getfield 11, 3) := by decide +kernel
theorem dX8_becomesRow_19 : decode cX8_becomesRow 19 = .ok (.lconst 0, 1) := by decide +kernel
theorem dX8_becomesRow_20 : decode cX8_becomesRow 20 = .ok (.invokestatic 25, 3) := by decide +kernel
theorem dX8_becomesRow_23 : decode cX8_becomesRow 23 = .ok (.return_, 1) := by decide +kernel
theorem dX8_refusal_0 : decode cX8_refusal 0 = .ok (.aload_n 0, 1) := by decide +kernel
theorem dX8_refusal_1 : decode cX8_refusal 1 = .ok (.getfield 15, 3) := by decide +kernel
theorem dX8_refusal_4 : decode cX8_refusal 4 = .ok (.ifCond .ne 6, 3) := by decide +kernel
theorem dX8_refusal_7 : decode cX8_refusal 7 = .ok (.bipush (-11), 2) := by decide +kernel
theorem dX8_refusal_9 : decode cX8_refusal 9 = .ok (.ireturn, 1) := by decide +kernel
theorem dX8_refusal_10 : decode cX8_refusal 10 = .ok (.aload_n 0, 1) := by decide +kernel
theorem dX8_refusal_11 : decode cX8_refusal 11 = .ok (.getfield 15, 3) := by decide +kernel
theorem dX8_refusal_14 : decode cX8_refusal 14 = .ok (.iconst 2, 1) := by decide +kernel
theorem dX8_refusal_15 : decode cX8_refusal 15 = .ok (.if_icmp .eq 6, 3) := by decide +kernel
theorem dX8_refusal_18 : decode cX8_refusal 18 = .ok (.bipush (-12), 2) := by decide +kernel
theorem dX8_refusal_20 : decode cX8_refusal 20 = .ok (.ireturn, 1) := by decide +kernel
theorem dX8_refusal_21 : decode cX8_refusal 21 = .ok (.iload_n 1, 1) := by decide +kernel
theorem dX8_refusal_22 : decode cX8_refusal 22 = .ok (.ifCond .lt 11, 3) := by decide +kernel
theorem dX8_refusal_25 : decode cX8_refusal 25 = .ok (.iload_n 1, 1) := by decide +kernel
theorem dX8_refusal_26 : decode cX8_refusal 26 = .ok (.aload_n 0, 1) := by decide +kernel
theorem dX8_refusal_27 : decode cX8_refusal 27 = .ok (.getfield 22, 3) := by decide +kernel
theorem dX8_refusal_30 : decode cX8_refusal 30 = .ok (.if_icmp .lt 8, 3) := by decide +kernel
theorem dX8_refusal_33 : decode cX8_refusal 33 = .ok (.bipush (-13), 2) := by decide +kernel
theorem dX8_refusal_35 : decode cX8_refusal 35 = .ok (.goto 4, 3) := by decide +kernel
theorem dX8_refusal_38 : decode cX8_refusal 38 = .ok (.iconst 0, 1) := by decide +kernel
theorem dX8_refusal_39 : decode cX8_refusal 39 = .ok (.ireturn, 1) := by decide +kernel
theorem dX8_hasPlaces_0 : decode cX8_hasPlaces 0 = .ok (.iload_n 1, 1) := by decide +kernel
theorem dX8_hasPlaces_1 : decode cX8_hasPlaces 1 = .ok (.ifCond .lt 29, 3) := by decide +kernel
theorem dX8_hasPlaces_4 : decode cX8_hasPlaces 4 = .ok (.iload_n 2, 1) := by decide +kernel
theorem dX8_hasPlaces_5 : decode cX8_hasPlaces 5 = .ok (.ifCond .lt 25, 3) := by decide +kernel
theorem dX8_hasPlaces_8 : decode cX8_hasPlaces 8 = .ok (.iload_n 2, 1) := by decide +kernel
theorem dX8_hasPlaces_9 : decode cX8_hasPlaces 9 = .ok (.aload_n 0, 1) := by decide +kernel
theorem dX8_hasPlaces_10 : decode cX8_hasPlaces 10 = .ok (.getfield 22, 3) := by decide +kernel
theorem dX8_hasPlaces_13 : decode cX8_hasPlaces 13 = .ok (.if_icmp .gt 17, 3) := by decide +kernel
theorem dX8_hasPlaces_16 : decode cX8_hasPlaces 16 = .ok (.iload_n 1, 1) := by decide +kernel
theorem dX8_hasPlaces_17 : decode cX8_hasPlaces 17 = .ok (.aload_n 0, 1) := by decide +kernel
theorem dX8_hasPlaces_18 : decode cX8_hasPlaces 18 = .ok (.getfield 22, 3) := by decide +kernel
theorem dX8_hasPlaces_21 : decode cX8_hasPlaces 21 = .ok (.iload_n 2, 1) := by decide +kernel
theorem dX8_hasPlaces_22 : decode cX8_hasPlaces 22 = .ok (.isub, 1) := by decide +kernel
theorem dX8_hasPlaces_23 : decode cX8_hasPlaces 23 = .ok (.if_icmp .gt 7, 3) := by decide +kernel
theorem dX8_hasPlaces_26 : decode cX8_hasPlaces 26 = .ok (.iconst 1, 1) := by decide +kernel
theorem dX8_hasPlaces_27 : decode cX8_hasPlaces 27 = .ok (.goto 4, 3) := by decide +kernel
theorem dX8_hasPlaces_30 : decode cX8_hasPlaces 30 = .ok (.iconst 0, 1) := by decide +kernel
theorem dX8_hasPlaces_31 : decode cX8_hasPlaces 31 = .ok (.ireturn, 1) := by decide +kernel
theorem dX8_narrowed_0 : decode cX8_narrowed 0 = .ok (.aload_n 0, 1) := by decide +kernel
theorem dX8_narrowed_1 : decode cX8_narrowed 1 = .ok (.getfield 19, 3) := by decide +kernel
theorem dX8_narrowed_4 : decode cX8_narrowed 4 = .ok (.tableswitch 42 0 2 #[28, 33, 38], 28) := by decide +kernel
theorem dX8_narrowed_32 : decode cX8_narrowed 32 = .ok (.lload_n 1, 1) := by decide +kernel
theorem dX8_narrowed_33 : decode cX8_narrowed 33 = .ok (.l2i, 1) := by decide +kernel
theorem dX8_narrowed_34 : decode cX8_narrowed 34 = .ok (.i2b, 1) := by decide +kernel
theorem dX8_narrowed_35 : decode cX8_narrowed 35 = .ok (.i2l, 1) := by decide +kernel
theorem dX8_narrowed_36 : decode cX8_narrowed 36 = .ok (.lreturn, 1) := by decide +kernel
theorem dX8_narrowed_37 : decode cX8_narrowed 37 = .ok (.lload_n 1, 1) := by decide +kernel
theorem dX8_narrowed_38 : decode cX8_narrowed 38 = .ok (.l2i, 1) := by decide +kernel
theorem dX8_narrowed_39 : decode cX8_narrowed 39 = .ok (.i2c, 1) := by decide +kernel
theorem dX8_narrowed_40 : decode cX8_narrowed 40 = .ok (.i2l, 1) := by decide +kernel
theorem dX8_narrowed_41 : decode cX8_narrowed 41 = .ok (.lreturn, 1) := by decide +kernel
theorem dX8_narrowed_42 : decode cX8_narrowed 42 = .ok (.lload_n 1, 1) := by decide +kernel
theorem dX8_narrowed_43 : decode cX8_narrowed 43 = .ok (.l2i, 1) := by decide +kernel
theorem dX8_narrowed_44 : decode cX8_narrowed 44 = .ok (.i2l, 1) := by decide +kernel
theorem dX8_narrowed_45 : decode cX8_narrowed 45 = .ok (.lreturn, 1) := by decide +kernel
theorem dX8_narrowed_46 : decode cX8_narrowed 46 = .ok (.lload_n 1, 1) := by decide +kernel
theorem dX8_narrowed_47 : decode cX8_narrowed 47 = .ok (.lreturn, 1) := by decide +kernel
theorem dX9_init_0 : decode cX9_init 0 = .ok (.aload_n 0, 1) := by decide +kernel
theorem dX9_init_1 : decode cX9_init 1 = .ok (.invokespecial 1, 3) := by decide +kernel
theorem dX9_init_4 : decode cX9_init 4 = .ok (.aload_n 0, 1) := by decide +kernel
theorem dX9_init_5 : decode cX9_init 5 = .ok (.bipush 10, 2) := by decide +kernel
theorem dX9_init_7 : decode cX9_init 7 = .ok (.newarray .int, 2) := by decide +kernel
theorem dX9_init_9 : decode cX9_init 9 = .ok (.putfield 7, 3) := by decide +kernel
theorem dX9_init_12 : decode cX9_init 12 = .ok (.aload_n 0, 1) := by decide +kernel
theorem dX9_init_13 : decode cX9_init 13 = .ok (.bipush 40, 2) := by decide +kernel
theorem dX9_init_15 : decode cX9_init 15 = .ok (.newarray .int, 2) := by decide +kernel
theorem dX9_init_17 : decode cX9_init 17 = .ok (.putfield 13, 3) := by decide +kernel
theorem dX9_init_20 : decode cX9_init 20 = .ok (.aload_n 0, 1) := by decide +kernel
theorem dX9_init_21 : decode cX9_init 21 = .ok (.bipush 40, 2) := by decide +kernel
theorem dX9_init_23 : decode cX9_init 23 = .ok (.newarray .int, 2) := by decide +kernel
theorem dX9_init_25 : decode cX9_init 25 = .ok (.putfield 16, 3) := by decide +kernel
theorem dX9_init_28 : decode cX9_init 28 = .ok (.return_, 1) := by decide +kernel
theorem dX9_sends_0 : decode cX9_sends 0 = .ok (.aload_n 0, 1) := by decide +kernel
theorem dX9_sends_1 : decode cX9_sends 1 = .ok (.getfield 19, 3) := by decide +kernel
theorem dX9_sends_4 : decode cX9_sends 4 = .ok (.bipush 40, 2) := by decide +kernel
theorem dX9_sends_6 : decode cX9_sends 6 = .ok (.if_icmp .ge 33, 3) := by decide +kernel
theorem dX9_sends_9 : decode cX9_sends 9 = .ok (.aload_n 0, 1) := by decide +kernel
theorem dX9_sends_10 : decode cX9_sends 10 = .ok (.getfield 13, 3) := by decide +kernel
theorem dX9_sends_13 : decode cX9_sends 13 = .ok (.aload_n 0, 1) := by decide +kernel
theorem dX9_sends_14 : decode cX9_sends 14 = .ok (.getfield 19, 3) := by decide +kernel
theorem dX9_sends_17 : decode cX9_sends 17 = .ok (.iload_n 1, 1) := by decide +kernel
theorem dX9_sends_18 : decode cX9_sends 18 = .ok (.iastore, 1) := by decide +kernel
theorem dX9_sends_19 : decode cX9_sends 19 = .ok (.aload_n 0, 1) := by decide +kernel
theorem dX9_sends_20 : decode cX9_sends 20 = .ok (.getfield 16, 3) := by decide +kernel
theorem dX9_sends_23 : decode cX9_sends 23 = .ok (.aload_n 0, 1) := by decide +kernel
theorem dX9_sends_24 : decode cX9_sends 24 = .ok (.getfield 19, 3) := by decide +kernel
theorem dX9_sends_27 : decode cX9_sends 27 = .ok (.iload_n 2, 1) := by decide +kernel
theorem dX9_sends_28 : decode cX9_sends 28 = .ok (.iastore, 1) := by decide +kernel
theorem dX9_sends_29 : decode cX9_sends 29 = .ok (.aload_n 0, 1) := by decide +kernel
theorem dX9_sends_30 : decode cX9_sends 30 = .ok (.dup, 1) := by decide +kernel
theorem dX9_sends_31 : decode cX9_sends 31 = .ok (.getfield 19, 3) := by decide +kernel
theorem dX9_sends_34 : decode cX9_sends 34 = .ok (.iconst 1, 1) := by decide +kernel
theorem dX9_sends_35 : decode cX9_sends 35 = .ok (.iadd, 1) := by decide +kernel
theorem dX9_sends_36 : decode cX9_sends 36 = .ok (.putfield 19, 3) := by decide +kernel
theorem dX9_sends_39 : decode cX9_sends 39 = .ok (.return_, 1) := by decide +kernel
theorem dX9_arrivals_0 : decode cX9_arrivals 0 = .ok (.iconst 0, 1) := by decide +kernel
theorem dX9_arrivals_1 : decode cX9_arrivals 1 = .ok (.istore_n 2, 1) := by decide +kernel
theorem dX9_arrivals_2 : decode cX9_arrivals 2 = .ok (.iconst 0, 1) := by decide +kernel
theorem dX9_arrivals_3 : decode cX9_arrivals 3 = .ok (.istore_n 3, 1) := by decide +kernel
theorem dX9_arrivals_4 : decode cX9_arrivals 4 = .ok (.iload_n 3, 1) := by decide +kernel
theorem dX9_arrivals_5 : decode cX9_arrivals 5 = .ok (.aload_n 0, 1) := by decide +kernel
theorem dX9_arrivals_6 : decode cX9_arrivals 6 = .ok (.getfield 19, 3) := by decide +kernel
theorem dX9_arrivals_9 : decode cX9_arrivals 9 = .ok (.if_icmp .ge 59, 3) := by decide +kernel
theorem dX9_arrivals_12 : decode cX9_arrivals 12 = .ok (.aload_n 0, 1) := by decide +kernel
theorem dX9_arrivals_13 : decode cX9_arrivals 13 = .ok (.getfield 16, 3) := by decide +kernel
theorem dX9_arrivals_16 : decode cX9_arrivals 16 = .ok (.iload_n 3, 1) := by decide +kernel
theorem dX9_arrivals_17 : decode cX9_arrivals 17 = .ok (.iaload, 1) := by decide +kernel
theorem dX9_arrivals_18 : decode cX9_arrivals 18 = .ok (.iload_n 1, 1) := by decide +kernel
theorem dX9_arrivals_19 : decode cX9_arrivals 19 = .ok (.if_icmp .gt 16, 3) := by decide +kernel
theorem dX9_arrivals_22 : decode cX9_arrivals 22 = .ok (.aload_n 0, 1) := by decide +kernel
theorem dX9_arrivals_23 : decode cX9_arrivals 23 = .ok (.aload_n 0, 1) := by decide +kernel
theorem dX9_arrivals_24 : decode cX9_arrivals 24 = .ok (.getfield 13, 3) := by decide +kernel
theorem dX9_arrivals_27 : decode cX9_arrivals 27 = .ok (.iload_n 3, 1) := by decide +kernel
theorem dX9_arrivals_28 : decode cX9_arrivals 28 = .ok (.iaload, 1) := by decide +kernel
theorem dX9_arrivals_29 : decode cX9_arrivals 29 = .ok (.invokevirtual 23, 3) := by decide +kernel
theorem dX9_arrivals_32 : decode cX9_arrivals 32 = .ok (.goto 30, 3) := by decide +kernel
theorem dX9_arrivals_35 : decode cX9_arrivals 35 = .ok (.aload_n 0, 1) := by decide +kernel
theorem dX9_arrivals_36 : decode cX9_arrivals 36 = .ok (.getfield 13, 3) := by decide +kernel
theorem dX9_arrivals_39 : decode cX9_arrivals 39 = .ok (.iload_n 2, 1) := by decide +kernel
theorem dX9_arrivals_40 : decode cX9_arrivals 40 = .ok (.aload_n 0, 1) := by decide +kernel
theorem dX9_arrivals_41 : decode cX9_arrivals 41 = .ok (.getfield 13, 3) := by decide +kernel
theorem dX9_arrivals_44 : decode cX9_arrivals 44 = .ok (.iload_n 3, 1) := by decide +kernel
theorem dX9_arrivals_45 : decode cX9_arrivals 45 = .ok (.iaload, 1) := by decide +kernel
theorem dX9_arrivals_46 : decode cX9_arrivals 46 = .ok (.iastore, 1) := by decide +kernel
theorem dX9_arrivals_47 : decode cX9_arrivals 47 = .ok (.aload_n 0, 1) := by decide +kernel
theorem dX9_arrivals_48 : decode cX9_arrivals 48 = .ok (.getfield 16, 3) := by decide +kernel
theorem dX9_arrivals_51 : decode cX9_arrivals 51 = .ok (.iload_n 2, 1) := by decide +kernel
theorem dX9_arrivals_52 : decode cX9_arrivals 52 = .ok (.aload_n 0, 1) := by decide +kernel
theorem dX9_arrivals_53 : decode cX9_arrivals 53 = .ok (.getfield 16, 3) := by decide +kernel
theorem dX9_arrivals_56 : decode cX9_arrivals 56 = .ok (.iload_n 3, 1) := by decide +kernel
theorem dX9_arrivals_57 : decode cX9_arrivals 57 = .ok (.iaload, 1) := by decide +kernel
theorem dX9_arrivals_58 : decode cX9_arrivals 58 = .ok (.iastore, 1) := by decide +kernel
theorem dX9_arrivals_59 : decode cX9_arrivals 59 = .ok (.iinc 2 1, 3) := by decide +kernel
theorem dX9_arrivals_62 : decode cX9_arrivals 62 = .ok (.iinc 3 1, 3) := by decide +kernel
theorem dX9_arrivals_65 : decode cX9_arrivals 65 = .ok (.goto (-61), 3) := by decide +kernel
theorem dX9_arrivals_68 : decode cX9_arrivals 68 = .ok (.aload_n 0, 1) := by decide +kernel
theorem dX9_arrivals_69 : decode cX9_arrivals 69 = .ok (.iload_n 2, 1) := by decide +kernel
theorem dX9_arrivals_70 : decode cX9_arrivals 70 = .ok (.putfield 19, 3) := by decide +kernel
theorem dX9_arrivals_73 : decode cX9_arrivals 73 = .ok (.return_, 1) := by decide +kernel
theorem dX9_comesBelow_0 : decode cX9_comesBelow 0 = .ok (.iload_n 1, 1) := by decide +kernel
theorem dX9_comesBelow_1 : decode cX9_comesBelow 1 = .ok (.bipush 10, 2) := by decide +kernel
theorem dX9_comesBelow_3 : decode cX9_comesBelow 3 = .ok (.irem, 1) := by decide +kernel
theorem dX9_comesBelow_4 : decode cX9_comesBelow 4 = .ok (.istore_n 2, 1) := by decide +kernel
theorem dX9_comesBelow_5 : decode cX9_comesBelow 5 = .ok (.iload_n 2, 1) := by decide +kernel
theorem dX9_comesBelow_6 : decode cX9_comesBelow 6 = .ok (.ifCond .ne 19, 3) := by decide +kernel
theorem dX9_comesBelow_9 : decode cX9_comesBelow 9 = .ok (.aload_n 0, 1) := by decide +kernel
theorem dX9_comesBelow_10 : decode cX9_comesBelow 10 = .ok (.dup, 1) := by decide +kernel
theorem dX9_comesBelow_11 : decode cX9_comesBelow 11 = .ok (.getfield 27, 3) := by decide +kernel
theorem dX9_comesBelow_14 : decode cX9_comesBelow 14 = .ok (.iload_n 1, 1) := by decide +kernel
theorem dX9_comesBelow_15 : decode cX9_comesBelow 15 = .ok (.bipush 10, 2) := by decide +kernel
theorem dX9_comesBelow_17 : decode cX9_comesBelow 17 = .ok (.idiv, 1) := by decide +kernel
theorem dX9_comesBelow_18 : decode cX9_comesBelow 18 = .ok (.iadd, 1) := by decide +kernel
theorem dX9_comesBelow_19 : decode cX9_comesBelow 19 = .ok (.putfield 27, 3) := by decide +kernel
theorem dX9_comesBelow_22 : decode cX9_comesBelow 22 = .ok (.goto 17, 3) := by decide +kernel
theorem dX9_comesBelow_25 : decode cX9_comesBelow 25 = .ok (.iload_n 2, 1) := by decide +kernel
theorem dX9_comesBelow_26 : decode cX9_comesBelow 26 = .ok (.ifCond .le 13, 3) := by decide +kernel
theorem dX9_comesBelow_29 : decode cX9_comesBelow 29 = .ok (.aload_n 0, 1) := by decide +kernel
theorem dX9_comesBelow_30 : decode cX9_comesBelow 30 = .ok (.getfield 7, 3) := by decide +kernel
theorem dX9_comesBelow_33 : decode cX9_comesBelow 33 = .ok (.iload_n 2, 1) := by decide +kernel
theorem dX9_comesBelow_34 : decode cX9_comesBelow 34 = .ok (.dup2, 1) := by decide +kernel
theorem dX9_comesBelow_35 : decode cX9_comesBelow 35 = .ok (.iaload, 1) := by decide +kernel
theorem dX9_comesBelow_36 : decode cX9_comesBelow 36 = .ok (.iconst 1, 1) := by decide +kernel
theorem dX9_comesBelow_37 : decode cX9_comesBelow 37 = .ok (.iadd, 1) := by decide +kernel
theorem dX9_comesBelow_38 : decode cX9_comesBelow 38 = .ok (.iastore, 1) := by decide +kernel
theorem dX9_comesBelow_39 : decode cX9_comesBelow 39 = .ok (.return_, 1) := by decide +kernel
theorem dX9_eats_0 : decode cX9_eats 0 = .ok (.iload_n 1, 1) := by decide +kernel
theorem dX9_eats_1 : decode cX9_eats 1 = .ok (.aload_n 0, 1) := by decide +kernel
theorem dX9_eats_2 : decode cX9_eats 2 = .ok (.getfield 27, 3) := by decide +kernel
theorem dX9_eats_5 : decode cX9_eats 5 = .ok (.invokestatic 30, 3) := by decide +kernel
theorem dX9_eats_8 : decode cX9_eats 8 = .ok (.istore_n 2, 1) := by decide +kernel
theorem dX9_eats_9 : decode cX9_eats 9 = .ok (.aload_n 0, 1) := by decide +kernel
theorem dX9_eats_10 : decode cX9_eats 10 = .ok (.dup, 1) := by decide +kernel
theorem dX9_eats_11 : decode cX9_eats 11 = .ok (.getfield 27, 3) := by decide +kernel
theorem dX9_eats_14 : decode cX9_eats 14 = .ok (.iload_n 2, 1) := by decide +kernel
theorem dX9_eats_15 : decode cX9_eats 15 = .ok (.isub, 1) := by decide +kernel
theorem dX9_eats_16 : decode cX9_eats 16 = .ok (.putfield 27, 3) := by decide +kernel
theorem dX9_eats_19 : decode cX9_eats 19 = .ok (.aload_n 0, 1) := by decide +kernel
theorem dX9_eats_20 : decode cX9_eats 20 = .ok (.dup, 1) := by decide +kernel
theorem dX9_eats_21 : decode cX9_eats 21 = .ok (.getfield 36, 3) := by decide +kernel
theorem dX9_eats_24 : decode cX9_eats 24 = .ok (.iload_n 2, 1) := by decide +kernel
theorem dX9_eats_25 : decode cX9_eats 25 = .ok (.iadd, 1) := by decide +kernel
theorem dX9_eats_26 : decode cX9_eats 26 = .ok (.putfield 36, 3) := by decide +kernel
theorem dX9_eats_29 : decode cX9_eats 29 = .ok (.iload_n 2, 1) := by decide +kernel
theorem dX9_eats_30 : decode cX9_eats 30 = .ok (.ireturn, 1) := by decide +kernel
