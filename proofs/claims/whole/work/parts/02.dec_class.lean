theorem dX0_init_0 : decode cX0_init 0 = .ok (.aload_n 0, 1) := by decide +kernel
theorem dX0_init_1 : decode cX0_init 1 = .ok (.invokespecial 3, 3) := by decide +kernel
theorem dX0_init_4 : decode cX0_init 4 = .ok (.aload_n 0, 1) := by decide +kernel
theorem dX0_init_5 : decode cX0_init 5 = .ok (.sipush 1600, 3) := by decide +kernel
theorem dX0_init_8 : decode cX0_init 8 = .ok (.newarray .int, 2) := by decide +kernel
theorem dX0_init_10 : decode cX0_init 10 = .ok (.putfield 9, 3) := by decide +kernel
theorem dX0_init_13 : decode cX0_init 13 = .ok (.aload_n 0, 1) := by decide +kernel
theorem dX0_init_14 : decode cX0_init 14 = .ok (.iconst 0, 1) := by decide +kernel
theorem dX0_init_15 : decode cX0_init 15 = .ok (.putfield 15, 3) := by decide +kernel
theorem dX0_init_18 : decode cX0_init 18 = .ok (.return_, 1) := by decide +kernel
theorem dX0_add_0 : decode cX0_add 0 = .ok (.aload_n 0, 1) := by decide +kernel
theorem dX0_add_1 : decode cX0_add 1 = .ok (.getfield 15, 3) := by decide +kernel
theorem dX0_add_4 : decode cX0_add 4 = .ok (.aload_n 0, 1) := by decide +kernel
theorem dX0_add_5 : decode cX0_add 5 = .ok (.getfield 9, 3) := by decide +kernel
theorem dX0_add_8 : decode cX0_add 8 = .ok (.arraylength, 1) := by decide +kernel
theorem dX0_add_9 : decode cX0_add 9 = .ok (.if_icmp .lt 5, 3) := by decide +kernel
theorem dX0_add_12 : decode cX0_add 12 = .ok (.iconst 0, 1) := by decide +kernel
theorem dX0_add_13 : decode cX0_add 13 = .ok (.ireturn, 1) := by decide +kernel
theorem dX0_add_14 : decode cX0_add 14 = .ok (.aload_n 0, 1) := by decide +kernel
theorem dX0_add_15 : decode cX0_add 15 = .ok (.getfield 9, 3) := by decide +kernel
theorem dX0_add_18 : decode cX0_add 18 = .ok (.aload_n 0, 1) := by decide +kernel
theorem dX0_add_19 : decode cX0_add 19 = .ok (.getfield 15, 3) := by decide +kernel
theorem dX0_add_22 : decode cX0_add 22 = .ok (.iload_n 1, 1) := by decide +kernel
theorem dX0_add_23 : decode cX0_add 23 = .ok (.iastore, 1) := by decide +kernel
theorem dX0_add_24 : decode cX0_add 24 = .ok (.aload_n 0, 1) := by decide +kernel
theorem dX0_add_25 : decode cX0_add 25 = .ok (.dup, 1) := by decide +kernel
theorem dX0_add_26 : decode cX0_add 26 = .ok (.getfield 15, 3) := by decide +kernel
theorem dX0_add_29 : decode cX0_add 29 = .ok (.iconst 1, 1) := by decide +kernel
theorem dX0_add_30 : decode cX0_add 30 = .ok (.iadd, 1) := by decide +kernel
theorem dX0_add_31 : decode cX0_add 31 = .ok (.putfield 15, 3) := by decide +kernel
theorem dX0_add_34 : decode cX0_add 34 = .ok (.iconst 1, 1) := by decide +kernel
theorem dX0_add_35 : decode cX0_add 35 = .ok (.ireturn, 1) := by decide +kernel
theorem dX1_init_0 : decode cX1_init 0 = .ok (.aload_n 0, 1) := by decide +kernel
theorem dX1_init_1 : decode cX1_init 1 = .ok (.invokespecial 3, 3) := by decide +kernel
theorem dX1_init_4 : decode cX1_init 4 = .ok (.aload_n 0, 1) := by decide +kernel
theorem dX1_init_5 : decode cX1_init 5 = .ok (.new 9, 3) := by decide +kernel
theorem dX1_init_8 : decode cX1_init 8 = .ok (.dup, 1) := by decide +kernel
theorem dX1_init_9 : decode cX1_init 9 = .ok (.invokespecial 11, 3) := by decide +kernel
theorem dX1_init_12 : decode cX1_init 12 = .ok (.putfield 12, 3) := by decide +kernel
theorem dX1_init_15 : decode cX1_init 15 = .ok (.aload_n 0, 1) := by decide +kernel
theorem dX1_init_16 : decode cX1_init 16 = .ok (.iconst 0, 1) := by decide +kernel
theorem dX1_init_17 : decode cX1_init 17 = .ok (.putfield 18, 3) := by decide +kernel
theorem dX1_init_20 : decode cX1_init 20 = .ok (.return_, 1) := by decide +kernel
theorem dX1_readQuestion_0 : decode cX1_readQuestion 0 = .ok (.aload_n 2, 1) := by decide +kernel
theorem dX1_readQuestion_1 : decode cX1_readQuestion 1 = .ok (.iconst 0, 1) := by decide +kernel
theorem dX1_readQuestion_2 : decode cX1_readQuestion 2 = .ok (.putfield 22, 3) := by decide +kernel
theorem dX1_readQuestion_5 : decode cX1_readQuestion 5 = .ok (.aload_n 0, 1) := by decide +kernel
theorem dX1_readQuestion_6 : decode cX1_readQuestion 6 = .ok (.iconst 2, 1) := by decide +kernel
theorem dX1_readQuestion_7 : decode cX1_readQuestion 7 = .ok (.putfield 18, 3) := by decide +kernel
theorem dX1_readQuestion_10 : decode cX1_readQuestion 10 = .ok (.aload_n 0, 1) := by decide +kernel
theorem dX1_readQuestion_11 : decode cX1_readQuestion 11 = .ok (.getfield 12, 3) := by decide +kernel
theorem dX1_readQuestion_14 : decode cX1_readQuestion 14 = .ok (.iload_n 1, 1) := by decide +kernel
theorem dX1_readQuestion_15 : decode cX1_readQuestion 15 = .ok (.invokevirtual 27, 3) := by decide +kernel
theorem dX1_readQuestion_18 : decode cX1_readQuestion 18 = .ok (.aload_n 0, 1) := by decide +kernel
theorem dX1_readQuestion_19 : decode cX1_readQuestion 19 = .ok (.getfield 12, 3) := by decide +kernel
theorem dX1_readQuestion_22 : decode cX1_readQuestion 22 = .ok (.getfield 31, 3) := by decide +kernel
theorem dX1_readQuestion_25 : decode cX1_readQuestion 25 = .ok (.iconst 1, 1) := by decide +kernel
theorem dX1_readQuestion_26 : decode cX1_readQuestion 26 = .ok (.if_icmp .ne 25, 3) := by decide +kernel
theorem dX1_readQuestion_29 : decode cX1_readQuestion 29 = .ok (.aload_n 0, 1) := by decide +kernel
theorem dX1_readQuestion_30 : decode cX1_readQuestion 30 = .ok (.getfield 12, 3) := by decide +kernel
theorem dX1_readQuestion_33 : decode cX1_readQuestion 33 = .ok (.getfield 34, 3) := by decide +kernel
theorem dX1_readQuestion_36 : decode cX1_readQuestion 36 = .ok (.bipush 31, 2) := by decide +kernel
theorem dX1_readQuestion_38 : decode cX1_readQuestion 38 = .ok (.if_icmp .lt 13, 3) := by decide +kernel
theorem dX1_readQuestion_41 : decode cX1_readQuestion 41 = .ok (.aload_n 0, 1) := by decide +kernel
theorem dX1_readQuestion_42 : decode cX1_readQuestion 42 = .ok (.getfield 12, 3) := by decide +kernel
theorem dX1_readQuestion_45 : decode cX1_readQuestion 45 = .ok (.getfield 34, 3) := by decide +kernel
theorem dX1_readQuestion_48 : decode cX1_readQuestion 48 = .ok (.goto 4, 3) := by decide +kernel
theorem dX1_readQuestion_51 : decode cX1_readQuestion 51 = .ok (.iconst (-1), 1) := by decide +kernel
theorem dX1_readQuestion_52 : decode cX1_readQuestion 52 = .ok (.istore_n 3, 1) := by decide +kernel
theorem dX1_readQuestion_53 : decode cX1_readQuestion 53 = .ok (.iload_n 3, 1) := by decide +kernel
theorem dX1_readQuestion_54 : decode cX1_readQuestion 54 = .ok (.iconst (-1), 1) := by decide +kernel
theorem dX1_readQuestion_55 : decode cX1_readQuestion 55 = .ok (.if_icmp .ne 21, 3) := by decide +kernel
theorem dX1_readQuestion_58 : decode cX1_readQuestion 58 = .ok (.aload_n 0, 1) := by decide +kernel
theorem dX1_readQuestion_59 : decode cX1_readQuestion 59 = .ok (.getfield 12, 3) := by decide +kernel
theorem dX1_readQuestion_62 : decode cX1_readQuestion 62 = .ok (.iconst 1, 1) := by decide +kernel
theorem dX1_readQuestion_63 : decode cX1_readQuestion 63 = .ok (.aload_n 0, 1) := by decide +kernel
theorem dX1_readQuestion_64 : decode cX1_readQuestion 64 = .ok (.getfield 12, 3) := by decide +kernel
theorem dX1_readQuestion_67 : decode cX1_readQuestion 67 = .ok (.getfield 37, 3) := by decide +kernel
theorem dX1_readQuestion_70 : decode cX1_readQuestion 70 = .ok (.invokevirtual 40, 3) := by decide +kernel
theorem dX1_readQuestion_73 : decode cX1_readQuestion 73 = .ok (.pop, 1) := by decide +kernel
theorem dX1_readQuestion_74 : decode cX1_readQuestion 74 = .ok (.iconst (-1), 1) := by decide +kernel
theorem dX1_readQuestion_75 : decode cX1_readQuestion 75 = .ok (.ireturn, 1) := by decide +kernel
theorem dX1_readQuestion_76 : decode cX1_readQuestion 76 = .ok (.aload_n 0, 1) := by decide +kernel
theorem dX1_readQuestion_77 : decode cX1_readQuestion 77 = .ok (.getfield 12, 3) := by decide +kernel
theorem dX1_readQuestion_80 : decode cX1_readQuestion 80 = .ok (.invokevirtual 44, 3) := by decide +kernel
theorem dX1_readQuestion_83 : decode cX1_readQuestion 83 = .ok (.iload_n 3, 1) := by decide +kernel
theorem dX1_readQuestion_84 : decode cX1_readQuestion 84 = .ok (.bipush 31, 2) := by decide +kernel
theorem dX1_readQuestion_86 : decode cX1_readQuestion 86 = .ok (.if_icmp .eq 15, 3) := by decide +kernel
theorem dX1_readQuestion_89 : decode cX1_readQuestion 89 = .ok (.iload_n 3, 1) := by decide +kernel
theorem dX1_readQuestion_90 : decode cX1_readQuestion 90 = .ok (.bipush 32, 2) := by decide +kernel
theorem dX1_readQuestion_92 : decode cX1_readQuestion 92 = .ok (.if_icmp .eq 9, 3) := by decide +kernel
theorem dX1_readQuestion_95 : decode cX1_readQuestion 95 = .ok (.iload_n 3, 1) := by decide +kernel
theorem dX1_readQuestion_96 : decode cX1_readQuestion 96 = .ok (.bipush 33, 2) := by decide +kernel
theorem dX1_readQuestion_98 : decode cX1_readQuestion 98 = .ok (.if_icmp .ne 7, 3) := by decide +kernel
theorem dX1_readQuestion_101 : decode cX1_readQuestion 101 = .ok (.iconst 1, 1) := by decide +kernel
theorem dX1_readQuestion_102 : decode cX1_readQuestion 102 = .ok (.goto 4, 3) := by decide +kernel
theorem dX1_readQuestion_105 : decode cX1_readQuestion 105 = .ok (.iconst 0, 1) := by decide +kernel
theorem dX1_readQuestion_106 : decode cX1_readQuestion 106 = .ok (.istore 4, 2) := by decide +kernel
theorem dX1_readQuestion_108 : decode cX1_readQuestion 108 = .ok (.iload 4, 2) := by decide +kernel
theorem dX1_readQuestion_110 : decode cX1_readQuestion 110 = .ok (.ifCond .eq 12, 3) := by decide +kernel
theorem dX1_readQuestion_113 : decode cX1_readQuestion 113 = .ok (.aload_n 0, 1) := by decide +kernel
theorem dX1_readQuestion_114 : decode cX1_readQuestion 114 = .ok (.aload_n 2, 1) := by decide +kernel
theorem dX1_readQuestion_115 : decode cX1_readQuestion 115 = .ok (.iconst 0, 1) := by decide +kernel
theorem dX1_readQuestion_116 : decode cX1_readQuestion 116 = .ok (.invokevirtual 47, 3) := by decide +kernel
theorem dX1_readQuestion_119 : decode cX1_readQuestion 119 = .ok (.goto 9, 3) := by decide +kernel
theorem dX1_readQuestion_122 : decode cX1_readQuestion 122 = .ok (.aload_n 0, 1) := by decide +kernel
theorem dX1_readQuestion_123 : decode cX1_readQuestion 123 = .ok (.aload_n 2, 1) := by decide +kernel
theorem dX1_readQuestion_124 : decode cX1_readQuestion 124 = .ok (.iconst 0, 1) := by decide +kernel
theorem dX1_readQuestion_125 : decode cX1_readQuestion 125 = .ok (.invokevirtual 51, 3) := by decide +kernel
theorem dX1_readQuestion_128 : decode cX1_readQuestion 128 = .ok (.istore 5, 2) := by decide +kernel
theorem dX1_readQuestion_130 : decode cX1_readQuestion 130 = .ok (.iload 5, 2) := by decide +kernel
theorem dX1_readQuestion_132 : decode cX1_readQuestion 132 = .ok (.ifCond .eq 30, 3) := by decide +kernel
theorem dX1_readQuestion_135 : decode cX1_readQuestion 135 = .ok (.aload_n 0, 1) := by decide +kernel
theorem dX1_readQuestion_136 : decode cX1_readQuestion 136 = .ok (.getfield 12, 3) := by decide +kernel
theorem dX1_readQuestion_139 : decode cX1_readQuestion 139 = .ok (.getfield 31, 3) := by decide +kernel
theorem dX1_readQuestion_142 : decode cX1_readQuestion 142 = .ok (.ifCond .eq 20, 3) := by decide +kernel
theorem dX1_readQuestion_145 : decode cX1_readQuestion 145 = .ok (.aload_n 0, 1) := by decide +kernel
theorem dX1_readQuestion_146 : decode cX1_readQuestion 146 = .ok (.getfield 12, 3) := by decide +kernel
theorem dX1_readQuestion_149 : decode cX1_readQuestion 149 = .ok (.iconst 1, 1) := by decide +kernel
theorem dX1_readQuestion_150 : decode cX1_readQuestion 150 = .ok (.aload_n 0, 1) := by decide +kernel
theorem dX1_readQuestion_151 : decode cX1_readQuestion 151 = .ok (.getfield 12, 3) := by decide +kernel
theorem dX1_readQuestion_154 : decode cX1_readQuestion 154 = .ok (.getfield 37, 3) := by decide +kernel
theorem dX1_readQuestion_157 : decode cX1_readQuestion 157 = .ok (.invokevirtual 40, 3) := by decide +kernel
theorem dX1_readQuestion_160 : decode cX1_readQuestion 160 = .ok (.istore 5, 2) := by decide +kernel
theorem dX1_readQuestion_162 : decode cX1_readQuestion 162 = .ok (.iload 5, 2) := by decide +kernel
theorem dX1_readQuestion_164 : decode cX1_readQuestion 164 = .ok (.ifCond .eq 7, 3) := by decide +kernel
theorem dX1_readQuestion_167 : decode cX1_readQuestion 167 = .ok (.iload_n 3, 1) := by decide +kernel
theorem dX1_readQuestion_168 : decode cX1_readQuestion 168 = .ok (.goto 4, 3) := by decide +kernel
theorem dX1_readQuestion_171 : decode cX1_readQuestion 171 = .ok (.iconst (-1), 1) := by decide +kernel
theorem dX1_readQuestion_172 : decode cX1_readQuestion 172 = .ok (.ireturn, 1) := by decide +kernel
theorem dX1_test_0 : decode cX1_test 0 = .ok (.aload_n 0, 1) := by decide +kernel
theorem dX1_test_1 : decode cX1_test 1 = .ok (.aload_n 1, 1) := by decide +kernel
theorem dX1_test_2 : decode cX1_test 2 = .ok (.iload_n 2, 1) := by decide +kernel
theorem dX1_test_3 : decode cX1_test 3 = .ok (.invokevirtual 54, 3) := by decide +kernel
theorem dX1_test_6 : decode cX1_test 6 = .ok (.istore_n 3, 1) := by decide +kernel
theorem dX1_test_7 : decode cX1_test 7 = .ok (.iconst 0, 1) := by decide +kernel
theorem dX1_test_8 : decode cX1_test 8 = .ok (.istore 4, 2) := by decide +kernel
theorem dX1_test_10 : decode cX1_test 10 = .ok (.iload 4, 2) := by decide +kernel
theorem dX1_test_12 : decode cX1_test 12 = .ok (.sipush 1600, 3) := by decide +kernel
theorem dX1_test_15 : decode cX1_test 15 = .ok (.if_icmp .ge 56, 3) := by decide +kernel
theorem dX1_test_18 : decode cX1_test 18 = .ok (.iload_n 3, 1) := by decide +kernel
theorem dX1_test_19 : decode cX1_test 19 = .ok (.ifCond .eq 52, 3) := by decide +kernel
theorem dX1_test_22 : decode cX1_test 22 = .ok (.aload_n 0, 1) := by decide +kernel
theorem dX1_test_23 : decode cX1_test 23 = .ok (.getfield 12, 3) := by decide +kernel
theorem dX1_test_26 : decode cX1_test 26 = .ok (.bipush 25, 2) := by decide +kernel
theorem dX1_test_28 : decode cX1_test 28 = .ok (.invokevirtual 57, 3) := by decide +kernel
theorem dX1_test_31 : decode cX1_test 31 = .ok (.ifCond .eq 40, 3) := by decide +kernel
theorem dX1_test_34 : decode cX1_test 34 = .ok (.aload_n 0, 1) := by decide +kernel
theorem dX1_test_35 : decode cX1_test 35 = .ok (.getfield 12, 3) := by decide +kernel
theorem dX1_test_38 : decode cX1_test 38 = .ok (.invokevirtual 44, 3) := by decide +kernel
theorem dX1_test_41 : decode cX1_test 41 = .ok (.aload_n 0, 1) := by decide +kernel
theorem dX1_test_42 : decode cX1_test 42 = .ok (.aload_n 1, 1) := by decide +kernel
theorem dX1_test_43 : decode cX1_test 43 = .ok (.iload_n 2, 1) := by decide +kernel
theorem dX1_test_44 : decode cX1_test 44 = .ok (.invokevirtual 54, 3) := by decide +kernel
theorem dX1_test_47 : decode cX1_test 47 = .ok (.ifCond .eq 16, 3) := by decide +kernel
theorem dX1_test_50 : decode cX1_test 50 = .ok (.aload_n 1, 1) := by decide +kernel
theorem dX1_test_51 : decode cX1_test 51 = .ok (.bipush 25, 2) := by decide +kernel
theorem dX1_test_53 : decode cX1_test 53 = .ok (.invokevirtual 61, 3) := by decide +kernel
theorem dX1_test_56 : decode cX1_test 56 = .ok (.ifCond .eq 7, 3) := by decide +kernel
theorem dX1_test_59 : decode cX1_test 59 = .ok (.iconst 1, 1) := by decide +kernel
theorem dX1_test_60 : decode cX1_test 60 = .ok (.goto 4, 3) := by decide +kernel
theorem dX1_test_63 : decode cX1_test 63 = .ok (.iconst 0, 1) := by decide +kernel
theorem dX1_test_64 : decode cX1_test 64 = .ok (.istore_n 3, 1) := by decide +kernel
theorem dX1_test_65 : decode cX1_test 65 = .ok (.iinc 4 1, 3) := by decide +kernel
theorem dX1_test_68 : decode cX1_test 68 = .ok (.goto (-58), 3) := by decide +kernel
theorem dX1_test_71 : decode cX1_test 71 = .ok (.iload_n 3, 1) := by decide +kernel
theorem dX1_test_72 : decode cX1_test 72 = .ok (.ireturn, 1) := by decide +kernel
theorem dX1_both_0 : decode cX1_both 0 = .ok (.aload_n 0, 1) := by decide +kernel
theorem dX1_both_1 : decode cX1_both 1 = .ok (.aload_n 1, 1) := by decide +kernel
theorem dX1_both_2 : decode cX1_both 2 = .ok (.iload_n 2, 1) := by decide +kernel
theorem dX1_both_3 : decode cX1_both 3 = .ok (.invokevirtual 64, 3) := by decide +kernel
theorem dX1_both_6 : decode cX1_both 6 = .ok (.istore_n 3, 1) := by decide +kernel
theorem dX1_both_7 : decode cX1_both 7 = .ok (.iconst 0, 1) := by decide +kernel
theorem dX1_both_8 : decode cX1_both 8 = .ok (.istore 4, 2) := by decide +kernel
theorem dX1_both_10 : decode cX1_both 10 = .ok (.iload 4, 2) := by decide +kernel
theorem dX1_both_12 : decode cX1_both 12 = .ok (.sipush 1600, 3) := by decide +kernel
theorem dX1_both_15 : decode cX1_both 15 = .ok (.if_icmp .ge 56, 3) := by decide +kernel
theorem dX1_both_18 : decode cX1_both 18 = .ok (.iload_n 3, 1) := by decide +kernel
theorem dX1_both_19 : decode cX1_both 19 = .ok (.ifCond .eq 52, 3) := by decide +kernel
theorem dX1_both_22 : decode cX1_both 22 = .ok (.aload_n 0, 1) := by decide +kernel
theorem dX1_both_23 : decode cX1_both 23 = .ok (.getfield 12, 3) := by decide +kernel
theorem dX1_both_26 : decode cX1_both 26 = .ok (.bipush 26, 2) := by decide +kernel
theorem dX1_both_28 : decode cX1_both 28 = .ok (.invokevirtual 57, 3) := by decide +kernel
theorem dX1_both_31 : decode cX1_both 31 = .ok (.ifCond .eq 40, 3) := by decide +kernel
theorem dX1_both_34 : decode cX1_both 34 = .ok (.aload_n 0, 1) := by decide +kernel
theorem dX1_both_35 : decode cX1_both 35 = .ok (.getfield 12, 3) := by decide +kernel
theorem dX1_both_38 : decode cX1_both 38 = .ok (.invokevirtual 44, 3) := by decide +kernel
theorem dX1_both_41 : decode cX1_both 41 = .ok (.aload_n 0, 1) := by decide +kernel
theorem dX1_both_42 : decode cX1_both 42 = .ok (.aload_n 1, 1) := by decide +kernel
theorem dX1_both_43 : decode cX1_both 43 = .ok (.iload_n 2, 1) := by decide +kernel
theorem dX1_both_44 : decode cX1_both 44 = .ok (.invokevirtual 64, 3) := by decide +kernel
theorem dX1_both_47 : decode cX1_both 47 = .ok (.ifCond .eq 16, 3) := by decide +kernel
theorem dX1_both_50 : decode cX1_both 50 = .ok (.aload_n 1, 1) := by decide +kernel
theorem dX1_both_51 : decode cX1_both 51 = .ok (.bipush 26, 2) := by decide +kernel
theorem dX1_both_53 : decode cX1_both 53 = .ok (.invokevirtual 61, 3) := by decide +kernel
theorem dX1_both_56 : decode cX1_both 56 = .ok (.ifCond .eq 7, 3) := by decide +kernel
theorem dX1_both_59 : decode cX1_both 59 = .ok (.iconst 1, 1) := by decide +kernel
theorem dX1_both_60 : decode cX1_both 60 = .ok (.goto 4, 3) := by decide +kernel
theorem dX1_both_63 : decode cX1_both 63 = .ok (.iconst 0, 1) := by decide +kernel
theorem dX1_both_64 : decode cX1_both 64 = .ok (.istore_n 3, 1) := by decide +kernel
theorem dX1_both_65 : decode cX1_both 65 = .ok (.iinc 4 1, 3) := by decide +kernel
theorem dX1_both_68 : decode cX1_both 68 = .ok (.goto (-58), 3) := by decide +kernel
theorem dX1_both_71 : decode cX1_both 71 = .ok (.iload_n 3, 1) := by decide +kernel
theorem dX1_both_72 : decode cX1_both 72 = .ok (.ireturn, 1) := by decide +kernel
theorem dX1_fact_0 : decode cX1_fact 0 = .ok (.aload_n 0, 1) := by decide +kernel
theorem dX1_fact_1 : decode cX1_fact 1 = .ok (.getfield 12, 3) := by decide +kernel
theorem dX1_fact_4 : decode cX1_fact 4 = .ok (.bipush 24, 2) := by decide +kernel
theorem dX1_fact_6 : decode cX1_fact 6 = .ok (.invokevirtual 57, 3) := by decide +kernel
theorem dX1_fact_9 : decode cX1_fact 9 = .ok (.ifCond .eq 46, 3) := by decide +kernel
theorem dX1_fact_12 : decode cX1_fact 12 = .ok (.aload_n 0, 1) := by decide +kernel
theorem dX1_fact_13 : decode cX1_fact 13 = .ok (.iload_n 2, 1) := by decide +kernel
theorem dX1_fact_14 : decode cX1_fact 14 = .ok (.invokevirtual 67, 3) := by decide +kernel
theorem dX1_fact_17 : decode cX1_fact 17 = .ok (.ifCond .ne 5, 3) := by decide +kernel
theorem dX1_fact_20 : decode cX1_fact 20 = .ok (.iconst 0, 1) := by decide +kernel
theorem dX1_fact_21 : decode cX1_fact 21 = .ok (.ireturn, 1) := by decide +kernel
theorem dX1_fact_22 : decode cX1_fact 22 = .ok (.aload_n 0, 1) := by decide +kernel
theorem dX1_fact_23 : decode cX1_fact 23 = .ok (.getfield 12, 3) := by decide +kernel
theorem dX1_fact_26 : decode cX1_fact 26 = .ok (.invokevirtual 44, 3) := by decide +kernel
theorem dX1_fact_29 : decode cX1_fact 29 = .ok (.aload_n 0, 1) := by decide +kernel
theorem dX1_fact_30 : decode cX1_fact 30 = .ok (.aload_n 1, 1) := by decide +kernel
theorem dX1_fact_31 : decode cX1_fact 31 = .ok (.iload_n 2, 1) := by decide +kernel
theorem dX1_fact_32 : decode cX1_fact 32 = .ok (.iconst 1, 1) := by decide +kernel
theorem dX1_fact_33 : decode cX1_fact 33 = .ok (.iadd, 1) := by decide +kernel
theorem dX1_fact_34 : decode cX1_fact 34 = .ok (.invokevirtual 64, 3) := by decide +kernel
theorem dX1_fact_37 : decode cX1_fact 37 = .ok (.ifCond .eq 16, 3) := by decide +kernel
theorem dX1_fact_40 : decode cX1_fact 40 = .ok (.aload_n 1, 1) := by decide +kernel
theorem dX1_fact_41 : decode cX1_fact 41 = .ok (.bipush 24, 2) := by decide +kernel
theorem dX1_fact_43 : decode cX1_fact 43 = .ok (.invokevirtual 61, 3) := by decide +kernel
theorem dX1_fact_46 : decode cX1_fact 46 = .ok (.ifCond .eq 7, 3) := by decide +kernel
theorem dX1_fact_49 : decode cX1_fact 49 = .ok (.iconst 1, 1) := by decide +kernel
theorem dX1_fact_50 : decode cX1_fact 50 = .ok (.goto 4, 3) := by decide +kernel
theorem dX1_fact_53 : decode cX1_fact 53 = .ok (.iconst 0, 1) := by decide +kernel
theorem dX1_fact_54 : decode cX1_fact 54 = .ok (.ireturn, 1) := by decide +kernel
theorem dX1_fact_55 : decode cX1_fact 55 = .ok (.aload_n 0, 1) := by decide +kernel
theorem dX1_fact_56 : decode cX1_fact 56 = .ok (.getfield 12, 3) := by decide +kernel
theorem dX1_fact_59 : decode cX1_fact 59 = .ok (.bipush 91, 2) := by decide +kernel
theorem dX1_fact_61 : decode cX1_fact 61 = .ok (.invokevirtual 70, 3) := by decide +kernel
theorem dX1_fact_64 : decode cX1_fact 64 = .ok (.ifCond .eq 49, 3) := by decide +kernel
theorem dX1_fact_67 : decode cX1_fact 67 = .ok (.aload_n 0, 1) := by decide +kernel
theorem dX1_fact_68 : decode cX1_fact 68 = .ok (.iload_n 2, 1) := by decide +kernel
theorem dX1_fact_69 : decode cX1_fact 69 = .ok (.invokevirtual 67, 3) := by decide +kernel
theorem dX1_fact_72 : decode cX1_fact 72 = .ok (.ifCond .ne 5, 3) := by decide +kernel
theorem dX1_fact_75 : decode cX1_fact 75 = .ok (.iconst 0, 1) := by decide +kernel
theorem dX1_fact_76 : decode cX1_fact 76 = .ok (.ireturn, 1) := by decide +kernel
theorem dX1_fact_77 : decode cX1_fact 77 = .ok (.aload_n 0, 1) := by decide +kernel
theorem dX1_fact_78 : decode cX1_fact 78 = .ok (.getfield 12, 3) := by decide +kernel
theorem dX1_fact_81 : decode cX1_fact 81 = .ok (.invokevirtual 44, 3) := by decide +kernel
theorem dX1_fact_84 : decode cX1_fact 84 = .ok (.aload_n 0, 1) := by decide +kernel
theorem dX1_fact_85 : decode cX1_fact 85 = .ok (.aload_n 1, 1) := by decide +kernel
theorem dX1_fact_86 : decode cX1_fact 86 = .ok (.iload_n 2, 1) := by decide +kernel
theorem dX1_fact_87 : decode cX1_fact 87 = .ok (.iconst 1, 1) := by decide +kernel
theorem dX1_fact_88 : decode cX1_fact 88 = .ok (.iadd, 1) := by decide +kernel
theorem dX1_fact_89 : decode cX1_fact 89 = .ok (.invokevirtual 47, 3) := by decide +kernel
theorem dX1_fact_92 : decode cX1_fact 92 = .ok (.ifCond .eq 19, 3) := by decide +kernel
theorem dX1_fact_95 : decode cX1_fact 95 = .ok (.aload_n 0, 1) := by decide +kernel
theorem dX1_fact_96 : decode cX1_fact 96 = .ok (.getfield 12, 3) := by decide +kernel
theorem dX1_fact_99 : decode cX1_fact 99 = .ok (.bipush 93, 2) := by decide +kernel
theorem dX1_fact_101 : decode cX1_fact 101 = .ok (.invokevirtual 73, 3) := by decide +kernel
theorem dX1_fact_104 : decode cX1_fact 104 = .ok (.ifCond .eq 7, 3) := by decide +kernel
theorem dX1_fact_107 : decode cX1_fact 107 = .ok (.iconst 1, 1) := by decide +kernel
theorem dX1_fact_108 : decode cX1_fact 108 = .ok (.goto 4, 3) := by decide +kernel
theorem dX1_fact_111 : decode cX1_fact 111 = .ok (.iconst 0, 1) := by decide +kernel
theorem dX1_fact_112 : decode cX1_fact 112 = .ok (.ireturn, 1) := by decide +kernel
theorem dX1_fact_113 : decode cX1_fact 113 = .ok (.aload_n 0, 1) := by decide +kernel
theorem dX1_fact_114 : decode cX1_fact 114 = .ok (.getfield 12, 3) := by decide +kernel
theorem dX1_fact_117 : decode cX1_fact 117 = .ok (.bipush 15, 2) := by decide +kernel
theorem dX1_fact_119 : decode cX1_fact 119 = .ok (.invokevirtual 57, 3) := by decide +kernel
theorem dX1_fact_122 : decode cX1_fact 122 = .ok (.ifCond .eq 17, 3) := by decide +kernel
theorem dX1_fact_125 : decode cX1_fact 125 = .ok (.aload_n 0, 1) := by decide +kernel
theorem dX1_fact_126 : decode cX1_fact 126 = .ok (.getfield 12, 3) := by decide +kernel
theorem dX1_fact_129 : decode cX1_fact 129 = .ok (.invokevirtual 44, 3) := by decide +kernel
theorem dX1_fact_132 : decode cX1_fact 132 = .ok (.aload_n 1, 1) := by decide +kernel
theorem dX1_fact_133 : decode cX1_fact 133 = .ok (.bipush 15, 2) := by decide +kernel
theorem dX1_fact_135 : decode cX1_fact 135 = .ok (.invokevirtual 61, 3) := by decide +kernel
theorem dX1_fact_138 : decode cX1_fact 138 = .ok (.ireturn, 1) := by decide +kernel
theorem dX1_fact_139 : decode cX1_fact 139 = .ok (.aload_n 0, 1) := by decide +kernel
theorem dX1_fact_140 : decode cX1_fact 140 = .ok (.aload_n 1, 1) := by decide +kernel
theorem dX1_fact_141 : decode cX1_fact 141 = .ok (.iload_n 2, 1) := by decide +kernel
theorem dX1_fact_142 : decode cX1_fact 142 = .ok (.invokevirtual 51, 3) := by decide +kernel
theorem dX1_fact_145 : decode cX1_fact 145 = .ok (.ifCond .ne 5, 3) := by decide +kernel
theorem dX1_fact_148 : decode cX1_fact 148 = .ok (.iconst 0, 1) := by decide +kernel
theorem dX1_fact_149 : decode cX1_fact 149 = .ok (.ireturn, 1) := by decide +kernel
theorem dX1_fact_150 : decode cX1_fact 150 = .ok (.aload_n 0, 1) := by decide +kernel
theorem dX1_fact_151 : decode cX1_fact 151 = .ok (.getfield 12, 3) := by decide +kernel
theorem dX1_fact_154 : decode cX1_fact 154 = .ok (.bipush 60, 2) := by decide +kernel
theorem dX1_fact_156 : decode cX1_fact 156 = .ok (.invokevirtual 70, 3) := by decide +kernel
theorem dX1_fact_159 : decode cX1_fact 159 = .ok (.ifCond .ne 43, 3) := by decide +kernel
theorem dX1_fact_162 : decode cX1_fact 162 = .ok (.aload_n 0, 1) := by decide +kernel
theorem dX1_fact_163 : decode cX1_fact 163 = .ok (.getfield 12, 3) := by decide +kernel
theorem dX1_fact_166 : decode cX1_fact 166 = .ok (.bipush 62, 2) := by decide +kernel
theorem dX1_fact_168 : decode cX1_fact 168 = .ok (.invokevirtual 70, 3) := by decide +kernel
theorem dX1_fact_171 : decode cX1_fact 171 = .ok (.ifCond .ne 31, 3) := by decide +kernel
theorem dX1_fact_174 : decode cX1_fact 174 = .ok (.aload_n 0, 1) := by decide +kernel
theorem dX1_fact_175 : decode cX1_fact 175 = .ok (.getfield 12, 3) := by decide +kernel
theorem dX1_fact_178 : decode cX1_fact 178 = .ok (.bipush 61, 2) := by decide +kernel
theorem dX1_fact_180 : decode cX1_fact 180 = .ok (.invokevirtual 70, 3) := by decide +kernel
theorem dX1_fact_183 : decode cX1_fact 183 = .ok (.ifCond .ne 19, 3) := by decide +kernel
theorem dX1_fact_186 : decode cX1_fact 186 = .ok (.aload_n 0, 1) := by decide +kernel
theorem dX1_fact_187 : decode cX1_fact 187 = .ok (.getfield 12, 3) := by decide +kernel
theorem dX1_fact_190 : decode cX1_fact 190 = .ok (.iconst 1, 1) := by decide +kernel
theorem dX1_fact_191 : decode cX1_fact 191 = .ok (.aload_n 0, 1) := by decide +kernel
theorem dX1_fact_192 : decode cX1_fact 192 = .ok (.getfield 12, 3) := by decide +kernel
theorem dX1_fact_195 : decode cX1_fact 195 = .ok (.getfield 37, 3) := by decide +kernel
theorem dX1_fact_198 : decode cX1_fact 198 = .ok (.invokevirtual 40, 3) := by decide +kernel
theorem dX1_fact_201 : decode cX1_fact 201 = .ok (.ireturn, 1) := by decide +kernel
theorem dX1_fact_202 : decode cX1_fact 202 = .ok (.aload_n 0, 1) := by decide +kernel
theorem dX1_fact_203 : decode cX1_fact 203 = .ok (.getfield 12, 3) := by decide +kernel
theorem dX1_fact_206 : decode cX1_fact 206 = .ok (.getfield 76, 3) := by decide +kernel
theorem dX1_fact_209 : decode cX1_fact 209 = .ok (.istore_n 3, 1) := by decide +kernel
theorem dX1_fact_210 : decode cX1_fact 210 = .ok (.aload_n 0, 1) := by decide +kernel
theorem dX1_fact_211 : decode cX1_fact 211 = .ok (.getfield 12, 3) := by decide +kernel
theorem dX1_fact_214 : decode cX1_fact 214 = .ok (.invokevirtual 44, 3) := by decide +kernel
theorem dX1_fact_217 : decode cX1_fact 217 = .ok (.aload_n 0, 1) := by decide +kernel
theorem dX1_fact_218 : decode cX1_fact 218 = .ok (.aload_n 1, 1) := by decide +kernel
theorem dX1_fact_219 : decode cX1_fact 219 = .ok (.iload_n 2, 1) := by decide +kernel
theorem dX1_fact_220 : decode cX1_fact 220 = .ok (.invokevirtual 51, 3) := by decide +kernel
theorem dX1_fact_223 : decode cX1_fact 223 = .ok (.ifCond .eq 15, 3) := by decide +kernel
theorem dX1_fact_226 : decode cX1_fact 226 = .ok (.aload_n 1, 1) := by decide +kernel
theorem dX1_fact_227 : decode cX1_fact 227 = .ok (.iload_n 3, 1) := by decide +kernel
theorem dX1_fact_228 : decode cX1_fact 228 = .ok (.invokevirtual 61, 3) := by decide +kernel
theorem dX1_fact_231 : decode cX1_fact 231 = .ok (.ifCond .eq 7, 3) := by decide +kernel
theorem dX1_fact_234 : decode cX1_fact 234 = .ok (.iconst 1, 1) := by decide +kernel
theorem dX1_fact_235 : decode cX1_fact 235 = .ok (.goto 4, 3) := by decide +kernel
theorem dX1_fact_238 : decode cX1_fact 238 = .ok (.iconst 0, 1) := by decide +kernel
theorem dX1_fact_239 : decode cX1_fact 239 = .ok (.ireturn, 1) := by decide +kernel
theorem dX1_sum_0 : decode cX1_sum 0 = .ok (.aload_n 0, 1) := by decide +kernel
theorem dX1_sum_1 : decode cX1_sum 1 = .ok (.aload_n 1, 1) := by decide +kernel
theorem dX1_sum_2 : decode cX1_sum 2 = .ok (.iload_n 2, 1) := by decide +kernel
theorem dX1_sum_3 : decode cX1_sum 3 = .ok (.invokevirtual 79, 3) := by decide +kernel
theorem dX1_sum_6 : decode cX1_sum 6 = .ok (.istore_n 3, 1) := by decide +kernel
theorem dX1_sum_7 : decode cX1_sum 7 = .ok (.iconst 0, 1) := by decide +kernel
theorem dX1_sum_8 : decode cX1_sum 8 = .ok (.istore 4, 2) := by decide +kernel
theorem dX1_sum_10 : decode cX1_sum 10 = .ok (.iload 4, 2) := by decide +kernel
theorem dX1_sum_12 : decode cX1_sum 12 = .ok (.sipush 1600, 3) := by decide +kernel
theorem dX1_sum_15 : decode cX1_sum 15 = .ok (.if_icmp .ge 77, 3) := by decide +kernel
theorem dX1_sum_18 : decode cX1_sum 18 = .ok (.iload_n 3, 1) := by decide +kernel
theorem dX1_sum_19 : decode cX1_sum 19 = .ok (.ifCond .eq 73, 3) := by decide +kernel
theorem dX1_sum_22 : decode cX1_sum 22 = .ok (.aload_n 0, 1) := by decide +kernel
theorem dX1_sum_23 : decode cX1_sum 23 = .ok (.getfield 12, 3) := by decide +kernel
theorem dX1_sum_26 : decode cX1_sum 26 = .ok (.bipush 43, 2) := by decide +kernel
theorem dX1_sum_28 : decode cX1_sum 28 = .ok (.invokevirtual 70, 3) := by decide +kernel
theorem dX1_sum_31 : decode cX1_sum 31 = .ok (.ifCond .ne 15, 3) := by decide +kernel
theorem dX1_sum_34 : decode cX1_sum 34 = .ok (.aload_n 0, 1) := by decide +kernel
theorem dX1_sum_35 : decode cX1_sum 35 = .ok (.getfield 12, 3) := by decide +kernel
theorem dX1_sum_38 : decode cX1_sum 38 = .ok (.bipush 45, 2) := by decide +kernel
theorem dX1_sum_40 : decode cX1_sum 40 = .ok (.invokevirtual 70, 3) := by decide +kernel
theorem dX1_sum_43 : decode cX1_sum 43 = .ok (.ifCond .eq 49, 3) := by decide +kernel
theorem dX1_sum_46 : decode cX1_sum 46 = .ok (.aload_n 0, 1) := by decide +kernel
theorem dX1_sum_47 : decode cX1_sum 47 = .ok (.getfield 12, 3) := by decide +kernel
theorem dX1_sum_50 : decode cX1_sum 50 = .ok (.getfield 76, 3) := by decide +kernel
theorem dX1_sum_53 : decode cX1_sum 53 = .ok (.istore 5, 2) := by decide +kernel
theorem dX1_sum_55 : decode cX1_sum 55 = .ok (.aload_n 0, 1) := by decide +kernel
theorem dX1_sum_56 : decode cX1_sum 56 = .ok (.getfield 12, 3) := by decide +kernel
theorem dX1_sum_59 : decode cX1_sum 59 = .ok (.invokevirtual 44, 3) := by decide +kernel
theorem dX1_sum_62 : decode cX1_sum 62 = .ok (.aload_n 0, 1) := by decide +kernel
theorem dX1_sum_63 : decode cX1_sum 63 = .ok (.aload_n 1, 1) := by decide +kernel
theorem dX1_sum_64 : decode cX1_sum 64 = .ok (.iload_n 2, 1) := by decide +kernel
theorem dX1_sum_65 : decode cX1_sum 65 = .ok (.invokevirtual 79, 3) := by decide +kernel
theorem dX1_sum_68 : decode cX1_sum 68 = .ok (.ifCond .eq 16, 3) := by decide +kernel
theorem dX1_sum_71 : decode cX1_sum 71 = .ok (.aload_n 1, 1) := by decide +kernel
theorem dX1_sum_72 : decode cX1_sum 72 = .ok (.iload 5, 2) := by decide +kernel
theorem dX1_sum_74 : decode cX1_sum 74 = .ok (.invokevirtual 61, 3) := by decide +kernel
theorem dX1_sum_77 : decode cX1_sum 77 = .ok (.ifCond .eq 7, 3) := by decide +kernel
theorem dX1_sum_80 : decode cX1_sum 80 = .ok (.iconst 1, 1) := by decide +kernel
theorem dX1_sum_81 : decode cX1_sum 81 = .ok (.goto 4, 3) := by decide +kernel
theorem dX1_sum_84 : decode cX1_sum 84 = .ok (.iconst 0, 1) := by decide +kernel
theorem dX1_sum_85 : decode cX1_sum 85 = .ok (.istore_n 3, 1) := by decide +kernel
theorem dX1_sum_86 : decode cX1_sum 86 = .ok (.iinc 4 1, 3) := by decide +kernel
theorem dX1_sum_89 : decode cX1_sum 89 = .ok (.goto (-79), 3) := by decide +kernel
theorem dX1_sum_92 : decode cX1_sum 92 = .ok (.iload_n 3, 1) := by decide +kernel
theorem dX1_sum_93 : decode cX1_sum 93 = .ok (.ireturn, 1) := by decide +kernel
theorem dX1_product_0 : decode cX1_product 0 = .ok (.aload_n 0, 1) := by decide +kernel
theorem dX1_product_1 : decode cX1_product 1 = .ok (.aload_n 1, 1) := by decide +kernel
theorem dX1_product_2 : decode cX1_product 2 = .ok (.iload_n 2, 1) := by decide +kernel
theorem dX1_product_3 : decode cX1_product 3 = .ok (.invokevirtual 82, 3) := by decide +kernel
theorem dX1_product_6 : decode cX1_product 6 = .ok (.istore_n 3, 1) := by decide +kernel
theorem dX1_product_7 : decode cX1_product 7 = .ok (.iconst 0, 1) := by decide +kernel
theorem dX1_product_8 : decode cX1_product 8 = .ok (.istore 4, 2) := by decide +kernel
theorem dX1_product_10 : decode cX1_product 10 = .ok (.iload 4, 2) := by decide +kernel
theorem dX1_product_12 : decode cX1_product 12 = .ok (.sipush 1600, 3) := by decide +kernel
theorem dX1_product_15 : decode cX1_product 15 = .ok (.if_icmp .ge 77, 3) := by decide +kernel
theorem dX1_product_18 : decode cX1_product 18 = .ok (.iload_n 3, 1) := by decide +kernel
theorem dX1_product_19 : decode cX1_product 19 = .ok (.ifCond .eq 73, 3) := by decide +kernel
theorem dX1_product_22 : decode cX1_product 22 = .ok (.aload_n 0, 1) := by decide +kernel
theorem dX1_product_23 : decode cX1_product 23 = .ok (.getfield 12, 3) := by decide +kernel
theorem dX1_product_26 : decode cX1_product 26 = .ok (.bipush 42, 2) := by decide +kernel
theorem dX1_product_28 : decode cX1_product 28 = .ok (.invokevirtual 70, 3) := by decide +kernel
theorem dX1_product_31 : decode cX1_product 31 = .ok (.ifCond .ne 15, 3) := by decide +kernel
theorem dX1_product_34 : decode cX1_product 34 = .ok (.aload_n 0, 1) := by decide +kernel
theorem dX1_product_35 : decode cX1_product 35 = .ok (.getfield 12, 3) := by decide +kernel
theorem dX1_product_38 : decode cX1_product 38 = .ok (.bipush 47, 2) := by decide +kernel
theorem dX1_product_40 : decode cX1_product 40 = .ok (.invokevirtual 70, 3) := by decide +kernel
theorem dX1_product_43 : decode cX1_product 43 = .ok (.ifCond .eq 49, 3) := by decide +kernel
theorem dX1_product_46 : decode cX1_product 46 = .ok (.aload_n 0, 1) := by decide +kernel
theorem dX1_product_47 : decode cX1_product 47 = .ok (.getfield 12, 3) := by decide +kernel
theorem dX1_product_50 : decode cX1_product 50 = .ok (.getfield 76, 3) := by decide +kernel
theorem dX1_product_53 : decode cX1_product 53 = .ok (.istore 5, 2) := by decide +kernel
theorem dX1_product_55 : decode cX1_product 55 = .ok (.aload_n 0, 1) := by decide +kernel
theorem dX1_product_56 : decode cX1_product 56 = .ok (.getfield 12, 3) := by decide +kernel
theorem dX1_product_59 : decode cX1_product 59 = .ok (.invokevirtual 44, 3) := by decide +kernel
theorem dX1_product_62 : decode cX1_product 62 = .ok (.aload_n 0, 1) := by decide +kernel
theorem dX1_product_63 : decode cX1_product 63 = .ok (.aload_n 1, 1) := by decide +kernel
theorem dX1_product_64 : decode cX1_product 64 = .ok (.iload_n 2, 1) := by decide +kernel
theorem dX1_product_65 : decode cX1_product 65 = .ok (.invokevirtual 82, 3) := by decide +kernel
theorem dX1_product_68 : decode cX1_product 68 = .ok (.ifCond .eq 16, 3) := by decide +kernel
theorem dX1_product_71 : decode cX1_product 71 = .ok (.aload_n 1, 1) := by decide +kernel
theorem dX1_product_72 : decode cX1_product 72 = .ok (.iload 5, 2) := by decide +kernel
theorem dX1_product_74 : decode cX1_product 74 = .ok (.invokevirtual 61, 3) := by decide +kernel
theorem dX1_product_77 : decode cX1_product 77 = .ok (.ifCond .eq 7, 3) := by decide +kernel
theorem dX1_product_80 : decode cX1_product 80 = .ok (.iconst 1, 1) := by decide +kernel
theorem dX1_product_81 : decode cX1_product 81 = .ok (.goto 4, 3) := by decide +kernel
theorem dX1_product_84 : decode cX1_product 84 = .ok (.iconst 0, 1) := by decide +kernel
theorem dX1_product_85 : decode cX1_product 85 = .ok (.istore_n 3, 1) := by decide +kernel
theorem dX1_product_86 : decode cX1_product 86 = .ok (.iinc 4 1, 3) := by decide +kernel
theorem dX1_product_89 : decode cX1_product 89 = .ok (.goto (-79), 3) := by decide +kernel
theorem dX1_product_92 : decode cX1_product 92 = .ok (.iload_n 3, 1) := by decide +kernel
theorem dX1_product_93 : decode cX1_product 93 = .ok (.ireturn, 1) := by decide +kernel
theorem dX1_part_0 : decode cX1_part 0 = .ok (.aload_n 0, 1) := by decide +kernel
theorem dX1_part_1 : decode cX1_part 1 = .ok (.getfield 12, 3) := by decide +kernel
theorem dX1_part_4 : decode cX1_part 4 = .ok (.getfield 31, 3) := by decide +kernel
theorem dX1_part_7 : decode cX1_part 7 = .ok (.iconst 2, 1) := by decide +kernel
theorem dX1_part_8 : decode cX1_part 8 = .ok (.if_icmp .ne 40, 3) := by decide +kernel
theorem dX1_part_11 : decode cX1_part 11 = .ok (.aload_n 0, 1) := by decide +kernel
theorem dX1_part_12 : decode cX1_part 12 = .ok (.getfield 12, 3) := by decide +kernel
theorem dX1_part_15 : decode cX1_part 15 = .ok (.invokevirtual 85, 3) := by decide +kernel
theorem dX1_part_18 : decode cX1_part 18 = .ok (.ifCond .ne 5, 3) := by decide +kernel
theorem dX1_part_21 : decode cX1_part 21 = .ok (.iconst 0, 1) := by decide +kernel
theorem dX1_part_22 : decode cX1_part 22 = .ok (.ireturn, 1) := by decide +kernel
theorem dX1_part_23 : decode cX1_part 23 = .ok (.aload_n 0, 1) := by decide +kernel
theorem dX1_part_24 : decode cX1_part 24 = .ok (.getfield 12, 3) := by decide +kernel
theorem dX1_part_27 : decode cX1_part 27 = .ok (.getfield 76, 3) := by decide +kernel
theorem dX1_part_30 : decode cX1_part 30 = .ok (.istore_n 3, 1) := by decide +kernel
theorem dX1_part_31 : decode cX1_part 31 = .ok (.aload_n 0, 1) := by decide +kernel
theorem dX1_part_32 : decode cX1_part 32 = .ok (.getfield 12, 3) := by decide +kernel
theorem dX1_part_35 : decode cX1_part 35 = .ok (.invokevirtual 44, 3) := by decide +kernel
theorem dX1_part_38 : decode cX1_part 38 = .ok (.aload_n 1, 1) := by decide +kernel
theorem dX1_part_39 : decode cX1_part 39 = .ok (.sipush 256, 3) := by decide +kernel
theorem dX1_part_42 : decode cX1_part 42 = .ok (.iload_n 3, 1) := by decide +kernel
theorem dX1_part_43 : decode cX1_part 43 = .ok (.iadd, 1) := by decide +kernel
theorem dX1_part_44 : decode cX1_part 44 = .ok (.invokevirtual 61, 3) := by decide +kernel
theorem dX1_part_47 : decode cX1_part 47 = .ok (.ireturn, 1) := by decide +kernel
theorem dX1_part_48 : decode cX1_part 48 = .ok (.aload_n 0, 1) := by decide +kernel
theorem dX1_part_49 : decode cX1_part 49 = .ok (.getfield 12, 3) := by decide +kernel
theorem dX1_part_52 : decode cX1_part 52 = .ok (.bipush 40, 2) := by decide +kernel
theorem dX1_part_54 : decode cX1_part 54 = .ok (.invokevirtual 70, 3) := by decide +kernel
theorem dX1_part_57 : decode cX1_part 57 = .ok (.ifCond .eq 49, 3) := by decide +kernel
theorem dX1_part_60 : decode cX1_part 60 = .ok (.aload_n 0, 1) := by decide +kernel
theorem dX1_part_61 : decode cX1_part 61 = .ok (.iload_n 2, 1) := by decide +kernel
theorem dX1_part_62 : decode cX1_part 62 = .ok (.invokevirtual 67, 3) := by decide +kernel
theorem dX1_part_65 : decode cX1_part 65 = .ok (.ifCond .ne 5, 3) := by decide +kernel
theorem dX1_part_68 : decode cX1_part 68 = .ok (.iconst 0, 1) := by decide +kernel
theorem dX1_part_69 : decode cX1_part 69 = .ok (.ireturn, 1) := by decide +kernel
theorem dX1_part_70 : decode cX1_part 70 = .ok (.aload_n 0, 1) := by decide +kernel
theorem dX1_part_71 : decode cX1_part 71 = .ok (.getfield 12, 3) := by decide +kernel
theorem dX1_part_74 : decode cX1_part 74 = .ok (.invokevirtual 44, 3) := by decide +kernel
theorem dX1_part_77 : decode cX1_part 77 = .ok (.aload_n 0, 1) := by decide +kernel
theorem dX1_part_78 : decode cX1_part 78 = .ok (.aload_n 1, 1) := by decide +kernel
theorem dX1_part_79 : decode cX1_part 79 = .ok (.iload_n 2, 1) := by decide +kernel
theorem dX1_part_80 : decode cX1_part 80 = .ok (.iconst 1, 1) := by decide +kernel
theorem dX1_part_81 : decode cX1_part 81 = .ok (.iadd, 1) := by decide +kernel
theorem dX1_part_82 : decode cX1_part 82 = .ok (.invokevirtual 51, 3) := by decide +kernel
theorem dX1_part_85 : decode cX1_part 85 = .ok (.ifCond .eq 19, 3) := by decide +kernel
theorem dX1_part_88 : decode cX1_part 88 = .ok (.aload_n 0, 1) := by decide +kernel
theorem dX1_part_89 : decode cX1_part 89 = .ok (.getfield 12, 3) := by decide +kernel
theorem dX1_part_92 : decode cX1_part 92 = .ok (.bipush 41, 2) := by decide +kernel
theorem dX1_part_94 : decode cX1_part 94 = .ok (.invokevirtual 73, 3) := by decide +kernel
theorem dX1_part_97 : decode cX1_part 97 = .ok (.ifCond .eq 7, 3) := by decide +kernel
theorem dX1_part_100 : decode cX1_part 100 = .ok (.iconst 1, 1) := by decide +kernel
theorem dX1_part_101 : decode cX1_part 101 = .ok (.goto 4, 3) := by decide +kernel
theorem dX1_part_104 : decode cX1_part 104 = .ok (.iconst 0, 1) := by decide +kernel
theorem dX1_part_105 : decode cX1_part 105 = .ok (.ireturn, 1) := by decide +kernel
theorem dX1_part_106 : decode cX1_part 106 = .ok (.aload_n 0, 1) := by decide +kernel
theorem dX1_part_107 : decode cX1_part 107 = .ok (.getfield 12, 3) := by decide +kernel
theorem dX1_part_110 : decode cX1_part 110 = .ok (.getfield 31, 3) := by decide +kernel
theorem dX1_part_113 : decode cX1_part 113 = .ok (.iconst 1, 1) := by decide +kernel
theorem dX1_part_114 : decode cX1_part 114 = .ok (.if_icmp .eq 19, 3) := by decide +kernel
theorem dX1_part_117 : decode cX1_part 117 = .ok (.aload_n 0, 1) := by decide +kernel
theorem dX1_part_118 : decode cX1_part 118 = .ok (.getfield 12, 3) := by decide +kernel
theorem dX1_part_121 : decode cX1_part 121 = .ok (.iconst 1, 1) := by decide +kernel
theorem dX1_part_122 : decode cX1_part 122 = .ok (.aload_n 0, 1) := by decide +kernel
theorem dX1_part_123 : decode cX1_part 123 = .ok (.getfield 12, 3) := by decide +kernel
theorem dX1_part_126 : decode cX1_part 126 = .ok (.getfield 37, 3) := by decide +kernel
theorem dX1_part_129 : decode cX1_part 129 = .ok (.invokevirtual 40, 3) := by decide +kernel
theorem dX1_part_132 : decode cX1_part 132 = .ok (.ireturn, 1) := by decide +kernel
theorem dX1_part_133 : decode cX1_part 133 = .ok (.aload_n 0, 1) := by decide +kernel
theorem dX1_part_134 : decode cX1_part 134 = .ok (.getfield 12, 3) := by decide +kernel
theorem dX1_part_137 : decode cX1_part 137 = .ok (.getfield 34, 3) := by decide +kernel
theorem dX1_part_140 : decode cX1_part 140 = .ok (.istore_n 3, 1) := by decide +kernel
theorem dX1_part_141 : decode cX1_part 141 = .ok (.iload_n 3, 1) := by decide +kernel
theorem dX1_part_142 : decode cX1_part 142 = .ok (.bipush 27, 2) := by decide +kernel
theorem dX1_part_144 : decode cX1_part 144 = .ok (.if_icmp .eq 9, 3) := by decide +kernel
theorem dX1_part_147 : decode cX1_part 147 = .ok (.iload_n 3, 1) := by decide +kernel
theorem dX1_part_148 : decode cX1_part 148 = .ok (.bipush 28, 2) := by decide +kernel
theorem dX1_part_150 : decode cX1_part 150 = .ok (.if_icmp .ne 33, 3) := by decide +kernel
theorem dX1_part_153 : decode cX1_part 153 = .ok (.aload_n 0, 1) := by decide +kernel
theorem dX1_part_154 : decode cX1_part 154 = .ok (.getfield 12, 3) := by decide +kernel
theorem dX1_part_157 : decode cX1_part 157 = .ok (.invokevirtual 44, 3) := by decide +kernel
theorem dX1_part_160 : decode cX1_part 160 = .ok (.aload_n 0, 1) := by decide +kernel
theorem dX1_part_161 : decode cX1_part 161 = .ok (.aload_n 1, 1) := by decide +kernel
theorem dX1_part_162 : decode cX1_part 162 = .ok (.iload_n 2, 1) := by decide +kernel
theorem dX1_part_163 : decode cX1_part 163 = .ok (.invokevirtual 89, 3) := by decide +kernel
theorem dX1_part_166 : decode cX1_part 166 = .ok (.ifCond .eq 15, 3) := by decide +kernel
theorem dX1_part_169 : decode cX1_part 169 = .ok (.aload_n 1, 1) := by decide +kernel
theorem dX1_part_170 : decode cX1_part 170 = .ok (.iload_n 3, 1) := by decide +kernel
theorem dX1_part_171 : decode cX1_part 171 = .ok (.invokevirtual 61, 3) := by decide +kernel
theorem dX1_part_174 : decode cX1_part 174 = .ok (.ifCond .eq 7, 3) := by decide +kernel
theorem dX1_part_177 : decode cX1_part 177 = .ok (.iconst 1, 1) := by decide +kernel
theorem dX1_part_178 : decode cX1_part 178 = .ok (.goto 4, 3) := by decide +kernel
theorem dX1_part_181 : decode cX1_part 181 = .ok (.iconst 0, 1) := by decide +kernel
theorem dX1_part_182 : decode cX1_part 182 = .ok (.ireturn, 1) := by decide +kernel
theorem dX1_part_183 : decode cX1_part 183 = .ok (.aload_n 0, 1) := by decide +kernel
theorem dX1_part_184 : decode cX1_part 184 = .ok (.iload_n 3, 1) := by decide +kernel
theorem dX1_part_185 : decode cX1_part 185 = .ok (.invokevirtual 92, 3) := by decide +kernel
theorem dX1_part_188 : decode cX1_part 188 = .ok (.ifCond .eq 45, 3) := by decide +kernel
theorem dX1_part_191 : decode cX1_part 191 = .ok (.aload_n 0, 1) := by decide +kernel
theorem dX1_part_192 : decode cX1_part 192 = .ok (.iload_n 2, 1) := by decide +kernel
theorem dX1_part_193 : decode cX1_part 193 = .ok (.invokevirtual 67, 3) := by decide +kernel
theorem dX1_part_196 : decode cX1_part 196 = .ok (.ifCond .ne 5, 3) := by decide +kernel
theorem dX1_part_199 : decode cX1_part 199 = .ok (.iconst 0, 1) := by decide +kernel
theorem dX1_part_200 : decode cX1_part 200 = .ok (.ireturn, 1) := by decide +kernel
theorem dX1_part_201 : decode cX1_part 201 = .ok (.aload_n 0, 1) := by decide +kernel
theorem dX1_part_202 : decode cX1_part 202 = .ok (.getfield 12, 3) := by decide +kernel
theorem dX1_part_205 : decode cX1_part 205 = .ok (.invokevirtual 44, 3) := by decide +kernel
theorem dX1_part_208 : decode cX1_part 208 = .ok (.aload_n 0, 1) := by decide +kernel
theorem dX1_part_209 : decode cX1_part 209 = .ok (.aload_n 1, 1) := by decide +kernel
theorem dX1_part_210 : decode cX1_part 210 = .ok (.iload_n 2, 1) := by decide +kernel
theorem dX1_part_211 : decode cX1_part 211 = .ok (.iconst 1, 1) := by decide +kernel
theorem dX1_part_212 : decode cX1_part 212 = .ok (.iadd, 1) := by decide +kernel
theorem dX1_part_213 : decode cX1_part 213 = .ok (.invokevirtual 82, 3) := by decide +kernel
theorem dX1_part_216 : decode cX1_part 216 = .ok (.ifCond .eq 15, 3) := by decide +kernel
theorem dX1_part_219 : decode cX1_part 219 = .ok (.aload_n 1, 1) := by decide +kernel
theorem dX1_part_220 : decode cX1_part 220 = .ok (.iload_n 3, 1) := by decide +kernel
theorem dX1_part_221 : decode cX1_part 221 = .ok (.invokevirtual 61, 3) := by decide +kernel
theorem dX1_part_224 : decode cX1_part 224 = .ok (.ifCond .eq 7, 3) := by decide +kernel
theorem dX1_part_227 : decode cX1_part 227 = .ok (.iconst 1, 1) := by decide +kernel
theorem dX1_part_228 : decode cX1_part 228 = .ok (.goto 4, 3) := by decide +kernel
theorem dX1_part_231 : decode cX1_part 231 = .ok (.iconst 0, 1) := by decide +kernel
theorem dX1_part_232 : decode cX1_part 232 = .ok (.ireturn, 1) := by decide +kernel
theorem dX1_part_233 : decode cX1_part 233 = .ok (.aload_n 0, 1) := by decide +kernel
theorem dX1_part_234 : decode cX1_part 234 = .ok (.iload_n 3, 1) := by decide +kernel
theorem dX1_part_235 : decode cX1_part 235 = .ok (.invokevirtual 95, 3) := by decide +kernel
theorem dX1_part_238 : decode cX1_part 238 = .ok (.ifCond .ne 19, 3) := by decide +kernel
theorem dX1_part_241 : decode cX1_part 241 = .ok (.aload_n 0, 1) := by decide +kernel
theorem dX1_part_242 : decode cX1_part 242 = .ok (.getfield 12, 3) := by decide +kernel
theorem dX1_part_245 : decode cX1_part 245 = .ok (.iconst 1, 1) := by decide +kernel
theorem dX1_part_246 : decode cX1_part 246 = .ok (.aload_n 0, 1) := by decide +kernel
theorem dX1_part_247 : decode cX1_part 247 = .ok (.getfield 12, 3) := by decide +kernel
theorem dX1_part_250 : decode cX1_part 250 = .ok (.getfield 37, 3) := by decide +kernel
theorem dX1_part_253 : decode cX1_part 253 = .ok (.invokevirtual 40, 3) := by decide +kernel
theorem dX1_part_256 : decode cX1_part 256 = .ok (.ireturn, 1) := by decide +kernel
theorem dX1_part_257 : decode cX1_part 257 = .ok (.aload_n 0, 1) := by decide +kernel
theorem dX1_part_258 : decode cX1_part 258 = .ok (.getfield 12, 3) := by decide +kernel
theorem dX1_part_261 : decode cX1_part 261 = .ok (.invokevirtual 44, 3) := by decide +kernel
theorem dX1_part_264 : decode cX1_part 264 = .ok (.aload_n 1, 1) := by decide +kernel
theorem dX1_part_265 : decode cX1_part 265 = .ok (.iload_n 3, 1) := by decide +kernel
theorem dX1_part_266 : decode cX1_part 266 = .ok (.invokevirtual 61, 3) := by decide +kernel
theorem dX1_part_269 : decode cX1_part 269 = .ok (.ireturn, 1) := by decide +kernel
theorem dX1_pair_0 : decode cX1_pair 0 = .ok (.aload_n 0, 1) := by decide +kernel
theorem dX1_pair_1 : decode cX1_pair 1 = .ok (.getfield 12, 3) := by decide +kernel
theorem dX1_pair_4 : decode cX1_pair 4 = .ok (.bipush 40, 2) := by decide +kernel
theorem dX1_pair_6 : decode cX1_pair 6 = .ok (.invokevirtual 70, 3) := by decide +kernel
theorem dX1_pair_9 : decode cX1_pair 9 = .ok (.ifCond .ne 19, 3) := by decide +kernel
theorem dX1_pair_12 : decode cX1_pair 12 = .ok (.aload_n 0, 1) := by decide +kernel
theorem dX1_pair_13 : decode cX1_pair 13 = .ok (.getfield 12, 3) := by decide +kernel
theorem dX1_pair_16 : decode cX1_pair 16 = .ok (.iconst 1, 1) := by decide +kernel
theorem dX1_pair_17 : decode cX1_pair 17 = .ok (.aload_n 0, 1) := by decide +kernel
theorem dX1_pair_18 : decode cX1_pair 18 = .ok (.getfield 12, 3) := by decide +kernel
theorem dX1_pair_21 : decode cX1_pair 21 = .ok (.getfield 37, 3) := by decide +kernel
theorem dX1_pair_24 : decode cX1_pair 24 = .ok (.invokevirtual 40, 3) := by decide +kernel
theorem dX1_pair_27 : decode cX1_pair 27 = .ok (.ireturn, 1) := by decide +kernel
theorem dX1_pair_28 : decode cX1_pair 28 = .ok (.aload_n 0, 1) := by decide +kernel
theorem dX1_pair_29 : decode cX1_pair 29 = .ok (.iload_n 2, 1) := by decide +kernel
theorem dX1_pair_30 : decode cX1_pair 30 = .ok (.invokevirtual 67, 3) := by decide +kernel
theorem dX1_pair_33 : decode cX1_pair 33 = .ok (.ifCond .ne 5, 3) := by decide +kernel
theorem dX1_pair_36 : decode cX1_pair 36 = .ok (.iconst 0, 1) := by decide +kernel
theorem dX1_pair_37 : decode cX1_pair 37 = .ok (.ireturn, 1) := by decide +kernel
theorem dX1_pair_38 : decode cX1_pair 38 = .ok (.aload_n 0, 1) := by decide +kernel
theorem dX1_pair_39 : decode cX1_pair 39 = .ok (.getfield 12, 3) := by decide +kernel
theorem dX1_pair_42 : decode cX1_pair 42 = .ok (.invokevirtual 44, 3) := by decide +kernel
theorem dX1_pair_45 : decode cX1_pair 45 = .ok (.aload_n 0, 1) := by decide +kernel
theorem dX1_pair_46 : decode cX1_pair 46 = .ok (.aload_n 1, 1) := by decide +kernel
theorem dX1_pair_47 : decode cX1_pair 47 = .ok (.iload_n 2, 1) := by decide +kernel
theorem dX1_pair_48 : decode cX1_pair 48 = .ok (.iconst 1, 1) := by decide +kernel
theorem dX1_pair_49 : decode cX1_pair 49 = .ok (.iadd, 1) := by decide +kernel
theorem dX1_pair_50 : decode cX1_pair 50 = .ok (.invokevirtual 51, 3) := by decide +kernel
theorem dX1_pair_53 : decode cX1_pair 53 = .ok (.ifCond .eq 42, 3) := by decide +kernel
theorem dX1_pair_56 : decode cX1_pair 56 = .ok (.aload_n 0, 1) := by decide +kernel
theorem dX1_pair_57 : decode cX1_pair 57 = .ok (.getfield 12, 3) := by decide +kernel
theorem dX1_pair_60 : decode cX1_pair 60 = .ok (.bipush 44, 2) := by decide +kernel
theorem dX1_pair_62 : decode cX1_pair 62 = .ok (.invokevirtual 73, 3) := by decide +kernel
theorem dX1_pair_65 : decode cX1_pair 65 = .ok (.ifCond .eq 30, 3) := by decide +kernel
theorem dX1_pair_68 : decode cX1_pair 68 = .ok (.aload_n 0, 1) := by decide +kernel
theorem dX1_pair_69 : decode cX1_pair 69 = .ok (.aload_n 1, 1) := by decide +kernel
theorem dX1_pair_70 : decode cX1_pair 70 = .ok (.iload_n 2, 1) := by decide +kernel
theorem dX1_pair_71 : decode cX1_pair 71 = .ok (.iconst 1, 1) := by decide +kernel
theorem dX1_pair_72 : decode cX1_pair 72 = .ok (.iadd, 1) := by decide +kernel
theorem dX1_pair_73 : decode cX1_pair 73 = .ok (.invokevirtual 51, 3) := by decide +kernel
theorem dX1_pair_76 : decode cX1_pair 76 = .ok (.ifCond .eq 19, 3) := by decide +kernel
theorem dX1_pair_79 : decode cX1_pair 79 = .ok (.aload_n 0, 1) := by decide +kernel
theorem dX1_pair_80 : decode cX1_pair 80 = .ok (.getfield 12, 3) := by decide +kernel
theorem dX1_pair_83 : decode cX1_pair 83 = .ok (.bipush 41, 2) := by decide +kernel
theorem dX1_pair_85 : decode cX1_pair 85 = .ok (.invokevirtual 73, 3) := by decide +kernel
theorem dX1_pair_88 : decode cX1_pair 88 = .ok (.ifCond .eq 7, 3) := by decide +kernel
theorem dX1_pair_91 : decode cX1_pair 91 = .ok (.iconst 1, 1) := by decide +kernel
theorem dX1_pair_92 : decode cX1_pair 92 = .ok (.goto 4, 3) := by decide +kernel
theorem dX1_pair_95 : decode cX1_pair 95 = .ok (.iconst 0, 1) := by decide +kernel
theorem dX1_pair_96 : decode cX1_pair 96 = .ok (.ireturn, 1) := by decide +kernel
theorem dX1_mayOpen_0 : decode cX1_mayOpen 0 = .ok (.iload_n 1, 1) := by decide +kernel
theorem dX1_mayOpen_1 : decode cX1_mayOpen 1 = .ok (.bipush 6, 2) := by decide +kernel
theorem dX1_mayOpen_3 : decode cX1_mayOpen 3 = .ok (.if_icmp .lt 21, 3) := by decide +kernel
theorem dX1_mayOpen_6 : decode cX1_mayOpen 6 = .ok (.aload_n 0, 1) := by decide +kernel
theorem dX1_mayOpen_7 : decode cX1_mayOpen 7 = .ok (.getfield 12, 3) := by decide +kernel
theorem dX1_mayOpen_10 : decode cX1_mayOpen 10 = .ok (.iconst 4, 1) := by decide +kernel
theorem dX1_mayOpen_11 : decode cX1_mayOpen 11 = .ok (.aload_n 0, 1) := by decide +kernel
theorem dX1_mayOpen_12 : decode cX1_mayOpen 12 = .ok (.getfield 12, 3) := by decide +kernel
theorem dX1_mayOpen_15 : decode cX1_mayOpen 15 = .ok (.getfield 37, 3) := by decide +kernel
theorem dX1_mayOpen_18 : decode cX1_mayOpen 18 = .ok (.invokevirtual 40, 3) := by decide +kernel
theorem dX1_mayOpen_21 : decode cX1_mayOpen 21 = .ok (.ifCond .eq 7, 3) := by decide +kernel
theorem dX1_mayOpen_24 : decode cX1_mayOpen 24 = .ok (.iconst 1, 1) := by decide +kernel
theorem dX1_mayOpen_25 : decode cX1_mayOpen 25 = .ok (.goto 4, 3) := by decide +kernel
theorem dX1_mayOpen_28 : decode cX1_mayOpen 28 = .ok (.iconst 0, 1) := by decide +kernel
theorem dX1_mayOpen_29 : decode cX1_mayOpen 29 = .ok (.ireturn, 1) := by decide +kernel
theorem dX1_isAskedOfNumber_0 : decode cX1_isAskedOfNumber 0 = .ok (.iload_n 1, 1) := by decide +kernel
theorem dX1_isAskedOfNumber_1 : decode cX1_isAskedOfNumber 1 = .ok (.lookupswitch 62 #[(22, 35), (23, 35), (30, 48)], 35) := by decide +kernel
theorem dX1_isAskedOfNumber_36 : decode cX1_isAskedOfNumber 36 = .ok (.aload_n 0, 1) := by decide +kernel
theorem dX1_isAskedOfNumber_37 : decode cX1_isAskedOfNumber 37 = .ok (.getfield 18, 3) := by decide +kernel
theorem dX1_isAskedOfNumber_40 : decode cX1_isAskedOfNumber 40 = .ok (.ifCond .eq 7, 3) := by decide +kernel
theorem dX1_isAskedOfNumber_43 : decode cX1_isAskedOfNumber 43 = .ok (.iconst 1, 1) := by decide +kernel
theorem dX1_isAskedOfNumber_44 : decode cX1_isAskedOfNumber 44 = .ok (.goto 4, 3) := by decide +kernel
theorem dX1_isAskedOfNumber_47 : decode cX1_isAskedOfNumber 47 = .ok (.iconst 0, 1) := by decide +kernel
theorem dX1_isAskedOfNumber_48 : decode cX1_isAskedOfNumber 48 = .ok (.ireturn, 1) := by decide +kernel
theorem dX1_isAskedOfNumber_49 : decode cX1_isAskedOfNumber 49 = .ok (.aload_n 0, 1) := by decide +kernel
theorem dX1_isAskedOfNumber_50 : decode cX1_isAskedOfNumber 50 = .ok (.getfield 18, 3) := by decide +kernel
theorem dX1_isAskedOfNumber_53 : decode cX1_isAskedOfNumber 53 = .ok (.iconst 2, 1) := by decide +kernel
theorem dX1_isAskedOfNumber_54 : decode cX1_isAskedOfNumber 54 = .ok (.if_icmp .ne 7, 3) := by decide +kernel
theorem dX1_isAskedOfNumber_57 : decode cX1_isAskedOfNumber 57 = .ok (.iconst 1, 1) := by decide +kernel
theorem dX1_isAskedOfNumber_58 : decode cX1_isAskedOfNumber 58 = .ok (.goto 4, 3) := by decide +kernel
theorem dX1_isAskedOfNumber_61 : decode cX1_isAskedOfNumber 61 = .ok (.iconst 0, 1) := by decide +kernel
theorem dX1_isAskedOfNumber_62 : decode cX1_isAskedOfNumber 62 = .ok (.ireturn, 1) := by decide +kernel
theorem dX1_isAskedOfNumber_63 : decode cX1_isAskedOfNumber 63 = .ok (.iconst 0, 1) := by decide +kernel
theorem dX1_isAskedOfNumber_64 : decode cX1_isAskedOfNumber 64 = .ok (.ireturn, 1) := by decide +kernel
theorem dX1_isAlone_0 : decode cX1_isAlone 0 = .ok (.iload_n 1, 1) := by decide +kernel
theorem dX1_isAlone_1 : decode cX1_isAlone 1 = .ok (.tableswitch 100 16 29 #[71, 71, 73, 73, 73, 73, 100, 100, 100, 100, 100, 100, 100, 86], 71) := by decide +kernel
theorem dX1_isAlone_72 : decode cX1_isAlone 72 = .ok (.iconst 1, 1) := by decide +kernel
theorem dX1_isAlone_73 : decode cX1_isAlone 73 = .ok (.ireturn, 1) := by decide +kernel
theorem dX1_isAlone_74 : decode cX1_isAlone 74 = .ok (.aload_n 0, 1) := by decide +kernel
theorem dX1_isAlone_75 : decode cX1_isAlone 75 = .ok (.getfield 18, 3) := by decide +kernel
theorem dX1_isAlone_78 : decode cX1_isAlone 78 = .ok (.ifCond .ne 7, 3) := by decide +kernel
theorem dX1_isAlone_81 : decode cX1_isAlone 81 = .ok (.iconst 1, 1) := by decide +kernel
theorem dX1_isAlone_82 : decode cX1_isAlone 82 = .ok (.goto 4, 3) := by decide +kernel
theorem dX1_isAlone_85 : decode cX1_isAlone 85 = .ok (.iconst 0, 1) := by decide +kernel
theorem dX1_isAlone_86 : decode cX1_isAlone 86 = .ok (.ireturn, 1) := by decide +kernel
theorem dX1_isAlone_87 : decode cX1_isAlone 87 = .ok (.aload_n 0, 1) := by decide +kernel
theorem dX1_isAlone_88 : decode cX1_isAlone 88 = .ok (.getfield 18, 3) := by decide +kernel
theorem dX1_isAlone_91 : decode cX1_isAlone 91 = .ok (.iconst 2, 1) := by decide +kernel
theorem dX1_isAlone_92 : decode cX1_isAlone 92 = .ok (.if_icmp .ne 7, 3) := by decide +kernel
theorem dX1_isAlone_95 : decode cX1_isAlone 95 = .ok (.iconst 1, 1) := by decide +kernel
theorem dX1_isAlone_96 : decode cX1_isAlone 96 = .ok (.goto 4, 3) := by decide +kernel
theorem dX1_isAlone_99 : decode cX1_isAlone 99 = .ok (.iconst 0, 1) := by decide +kernel
theorem dX1_isAlone_100 : decode cX1_isAlone 100 = .ok (.ireturn, 1) := by decide +kernel
theorem dX1_isAlone_101 : decode cX1_isAlone 101 = .ok (.iconst 0, 1) := by decide +kernel
theorem dX1_isAlone_102 : decode cX1_isAlone 102 = .ok (.ireturn, 1) := by decide +kernel
theorem dX2_init_0 : decode cX2_init 0 = .ok (.aload_n 0, 1) := by decide +kernel
theorem dX2_init_1 : decode cX2_init 1 = .ok (.invokespecial 3, 3) := by decide +kernel
theorem dX2_init_4 : decode cX2_init 4 = .ok (.aload_n 0, 1) := by decide +kernel
theorem dX2_init_5 : decode cX2_init 5 = .ok (.new 9, 3) := by decide +kernel
theorem dX2_init_8 : decode cX2_init 8 = .ok (.dup, 1) := by decide +kernel
theorem dX2_init_9 : decode cX2_init 9 = .ok (.invokespecial 11, 3) := by decide +kernel
theorem dX2_init_12 : decode cX2_init 12 = .ok (.putfield 12, 3) := by decide +kernel
theorem dX2_init_15 : decode cX2_init 15 = .ok (.aload_n 0, 1) := by decide +kernel
theorem dX2_init_16 : decode cX2_init 16 = .ok (.new 18, 3) := by decide +kernel
theorem dX2_init_19 : decode cX2_init 19 = .ok (.dup, 1) := by decide +kernel
theorem dX2_init_20 : decode cX2_init 20 = .ok (.invokespecial 20, 3) := by decide +kernel
theorem dX2_init_23 : decode cX2_init 23 = .ok (.putfield 21, 3) := by decide +kernel
theorem dX2_init_26 : decode cX2_init 26 = .ok (.aload_n 0, 1) := by decide +kernel
theorem dX2_init_27 : decode cX2_init 27 = .ok (.bipush 80, 2) := by decide +kernel
theorem dX2_init_29 : decode cX2_init 29 = .ok (.newarray .int, 2) := by decide +kernel
theorem dX2_init_31 : decode cX2_init 31 = .ok (.putfield 25, 3) := by decide +kernel
theorem dX2_init_34 : decode cX2_init 34 = .ok (.aload_n 0, 1) := by decide +kernel
theorem dX2_init_35 : decode cX2_init 35 = .ok (.iconst 0, 1) := by decide +kernel
theorem dX2_init_36 : decode cX2_init 36 = .ok (.putfield 29, 3) := by decide +kernel
theorem dX2_init_39 : decode cX2_init 39 = .ok (.aload_n 0, 1) := by decide +kernel
theorem dX2_init_40 : decode cX2_init 40 = .ok (.bipush 92, 2) := by decide +kernel
theorem dX2_init_42 : decode cX2_init 42 = .ok (.newarray .int, 2) := by decide +kernel
theorem dX2_init_44 : decode cX2_init 44 = .ok (.putfield 33, 3) := by decide +kernel
theorem dX2_init_47 : decode cX2_init 47 = .ok (.aload_n 0, 1) := by decide +kernel
theorem dX2_init_48 : decode cX2_init 48 = .ok (.iconst 0, 1) := by decide +kernel
theorem dX2_init_49 : decode cX2_init 49 = .ok (.putfield 36, 3) := by decide +kernel
theorem dX2_init_52 : decode cX2_init 52 = .ok (.aload_n 0, 1) := by decide +kernel
theorem dX2_init_53 : decode cX2_init 53 = .ok (.sipush 2944, 3) := by decide +kernel
theorem dX2_init_56 : decode cX2_init 56 = .ok (.newarray .int, 2) := by decide +kernel
theorem dX2_init_58 : decode cX2_init 58 = .ok (.putfield 39, 3) := by decide +kernel
theorem dX2_init_61 : decode cX2_init 61 = .ok (.aload_n 0, 1) := by decide +kernel
theorem dX2_init_62 : decode cX2_init 62 = .ok (.bipush 100, 2) := by decide +kernel
theorem dX2_init_64 : decode cX2_init 64 = .ok (.newarray .int, 2) := by decide +kernel
theorem dX2_init_66 : decode cX2_init 66 = .ok (.putfield 42, 3) := by decide +kernel
theorem dX2_init_69 : decode cX2_init 69 = .ok (.return_, 1) := by decide +kernel
theorem dX2_readRows_0 : decode cX2_readRows 0 = .ok (.iload_n 2, 1) := by decide +kernel
theorem dX2_readRows_1 : decode cX2_readRows 1 = .ok (.iconst 4, 1) := by decide +kernel
theorem dX2_readRows_2 : decode cX2_readRows 2 = .ok (.if_icmp .lt 24, 3) := by decide +kernel
theorem dX2_readRows_5 : decode cX2_readRows 5 = .ok (.iload_n 2, 1) := by decide +kernel
theorem dX2_readRows_6 : decode cX2_readRows 6 = .ok (.aload_n 0, 1) := by decide +kernel
theorem dX2_readRows_7 : decode cX2_readRows 7 = .ok (.getfield 25, 3) := by decide +kernel
theorem dX2_readRows_10 : decode cX2_readRows 10 = .ok (.arraylength, 1) := by decide +kernel
theorem dX2_readRows_11 : decode cX2_readRows 11 = .ok (.if_icmp .gt 15, 3) := by decide +kernel
theorem dX2_readRows_14 : decode cX2_readRows 14 = .ok (.iload_n 2, 1) := by decide +kernel
theorem dX2_readRows_15 : decode cX2_readRows 15 = .ok (.aload_n 1, 1) := by decide +kernel
theorem dX2_readRows_16 : decode cX2_readRows 16 = .ok (.arraylength, 1) := by decide +kernel
theorem dX2_readRows_17 : decode cX2_readRows 17 = .ok (.if_icmp .gt 9, 3) := by decide +kernel
theorem dX2_readRows_20 : decode cX2_readRows 20 = .ok (.iload_n 2, 1) := by decide +kernel
theorem dX2_readRows_21 : decode cX2_readRows 21 = .ok (.iconst 4, 1) := by decide +kernel
theorem dX2_readRows_22 : decode cX2_readRows 22 = .ok (.irem, 1) := by decide +kernel
theorem dX2_readRows_23 : decode cX2_readRows 23 = .ok (.ifCond .eq 5, 3) := by decide +kernel
theorem dX2_readRows_26 : decode cX2_readRows 26 = .ok (.iconst 0, 1) := by decide +kernel
theorem dX2_readRows_27 : decode cX2_readRows 27 = .ok (.ireturn, 1) := by decide +kernel
theorem dX2_readRows_28 : decode cX2_readRows 28 = .ok (.iconst 0, 1) := by decide +kernel
theorem dX2_readRows_29 : decode cX2_readRows 29 = .ok (.istore 4, 2) := by decide +kernel
theorem dX2_readRows_31 : decode cX2_readRows 31 = .ok (.iload 4, 2) := by decide +kernel
theorem dX2_readRows_33 : decode cX2_readRows 33 = .ok (.iconst 4, 1) := by decide +kernel
theorem dX2_readRows_34 : decode cX2_readRows 34 = .ok (.iadd, 1) := by decide +kernel
theorem dX2_readRows_35 : decode cX2_readRows 35 = .ok (.iload_n 2, 1) := by decide +kernel
theorem dX2_readRows_36 : decode cX2_readRows 36 = .ok (.if_icmp .gt 62, 3) := by decide +kernel
theorem dX2_readRows_39 : decode cX2_readRows 39 = .ok (.aload_n 1, 1) := by decide +kernel
theorem dX2_readRows_40 : decode cX2_readRows 40 = .ok (.iload 4, 2) := by decide +kernel
theorem dX2_readRows_42 : decode cX2_readRows 42 = .ok (.iaload, 1) := by decide +kernel
theorem dX2_readRows_43 : decode cX2_readRows 43 = .ok (.aload_n 3, 1) := by decide +kernel
theorem dX2_readRows_44 : decode cX2_readRows 44 = .ok (.getfield 45, 3) := by decide +kernel
theorem dX2_readRows_47 : decode cX2_readRows 47 = .ok (.iconst 1, 1) := by decide +kernel
theorem dX2_readRows_48 : decode cX2_readRows 48 = .ok (.iaload, 1) := by decide +kernel
theorem dX2_readRows_49 : decode cX2_readRows 49 = .ok (.if_icmp .ge 41, 3) := by decide +kernel
theorem dX2_readRows_52 : decode cX2_readRows 52 = .ok (.aload_n 1, 1) := by decide +kernel
theorem dX2_readRows_53 : decode cX2_readRows 53 = .ok (.iload 4, 2) := by decide +kernel
theorem dX2_readRows_55 : decode cX2_readRows 55 = .ok (.iconst 1, 1) := by decide +kernel
theorem dX2_readRows_56 : decode cX2_readRows 56 = .ok (.iadd, 1) := by decide +kernel
theorem dX2_readRows_57 : decode cX2_readRows 57 = .ok (.iaload, 1) := by decide +kernel
theorem dX2_readRows_58 : decode cX2_readRows 58 = .ok (.aload_n 3, 1) := by decide +kernel
theorem dX2_readRows_59 : decode cX2_readRows 59 = .ok (.getfield 45, 3) := by decide +kernel
theorem dX2_readRows_62 : decode cX2_readRows 62 = .ok (.iconst 0, 1) := by decide +kernel
theorem dX2_readRows_63 : decode cX2_readRows 63 = .ok (.iaload, 1) := by decide +kernel
theorem dX2_readRows_64 : decode cX2_readRows 64 = .ok (.if_icmp .ge 26, 3) := by decide +kernel
theorem dX2_readRows_67 : decode cX2_readRows 67 = .ok (.aload_n 1, 1) := by decide +kernel
theorem dX2_readRows_68 : decode cX2_readRows 68 = .ok (.iload 4, 2) := by decide +kernel
theorem dX2_readRows_70 : decode cX2_readRows 70 = .ok (.iconst 2, 1) := by decide +kernel
theorem dX2_readRows_71 : decode cX2_readRows 71 = .ok (.iadd, 1) := by decide +kernel
theorem dX2_readRows_72 : decode cX2_readRows 72 = .ok (.iaload, 1) := by decide +kernel
theorem dX2_readRows_73 : decode cX2_readRows 73 = .ok (.sipush 200, 3) := by decide +kernel
theorem dX2_readRows_76 : decode cX2_readRows 76 = .ok (.if_icmp .gt 14, 3) := by decide +kernel
theorem dX2_readRows_79 : decode cX2_readRows 79 = .ok (.aload_n 1, 1) := by decide +kernel
theorem dX2_readRows_80 : decode cX2_readRows 80 = .ok (.iload 4, 2) := by decide +kernel
theorem dX2_readRows_82 : decode cX2_readRows 82 = .ok (.iconst 3, 1) := by decide +kernel
theorem dX2_readRows_83 : decode cX2_readRows 83 = .ok (.iadd, 1) := by decide +kernel
theorem dX2_readRows_84 : decode cX2_readRows 84 = .ok (.iaload, 1) := by decide +kernel
theorem dX2_readRows_85 : decode cX2_readRows 85 = .ok (.bipush 99, 2) := by decide +kernel
theorem dX2_readRows_87 : decode cX2_readRows 87 = .ok (.if_icmp .le 5, 3) := by decide +kernel
theorem dX2_readRows_90 : decode cX2_readRows 90 = .ok (.iconst 0, 1) := by decide +kernel
theorem dX2_readRows_91 : decode cX2_readRows 91 = .ok (.ireturn, 1) := by decide +kernel
theorem dX2_readRows_92 : decode cX2_readRows 92 = .ok (.iinc 4 4, 3) := by decide +kernel
theorem dX2_readRows_95 : decode cX2_readRows 95 = .ok (.goto (-64), 3) := by decide +kernel
theorem dX2_readRows_98 : decode cX2_readRows 98 = .ok (.aload_n 1, 1) := by decide +kernel
theorem dX2_readRows_99 : decode cX2_readRows 99 = .ok (.iconst 0, 1) := by decide +kernel
theorem dX2_readRows_100 : decode cX2_readRows 100 = .ok (.aload_n 0, 1) := by decide +kernel
theorem dX2_readRows_101 : decode cX2_readRows 101 = .ok (.getfield 25, 3) := by decide +kernel
theorem dX2_readRows_104 : decode cX2_readRows 104 = .ok (.iconst 0, 1) := by decide +kernel
theorem dX2_readRows_105 : decode cX2_readRows 105 = .ok (.iload_n 2, 1) := by decide +kernel
theorem dX2_readRows_106 : decode cX2_readRows 106 = .ok (.invokestatic 50, 3) := by decide +kernel
theorem dX2_readRows_109 : decode cX2_readRows 109 = .ok (.aload_n 0, 1) := by decide +kernel
theorem dX2_readRows_110 : decode cX2_readRows 110 = .ok (.iload_n 2, 1) := by decide +kernel
theorem dX2_readRows_111 : decode cX2_readRows 111 = .ok (.iconst 4, 1) := by decide +kernel
theorem dX2_readRows_112 : decode cX2_readRows 112 = .ok (.idiv, 1) := by decide +kernel
theorem dX2_readRows_113 : decode cX2_readRows 113 = .ok (.putfield 29, 3) := by decide +kernel
theorem dX2_readRows_116 : decode cX2_readRows 116 = .ok (.iconst 1, 1) := by decide +kernel
theorem dX2_readRows_117 : decode cX2_readRows 117 = .ok (.ireturn, 1) := by decide +kernel
theorem dX2_findSets_0 : decode cX2_findSets 0 = .ok (.aload_n 0, 1) := by decide +kernel
theorem dX2_findSets_1 : decode cX2_findSets 1 = .ok (.iconst 0, 1) := by decide +kernel
theorem dX2_findSets_2 : decode cX2_findSets 2 = .ok (.putfield 36, 3) := by decide +kernel
theorem dX2_findSets_5 : decode cX2_findSets 5 = .ok (.aload_n 0, 1) := by decide +kernel
theorem dX2_findSets_6 : decode cX2_findSets 6 = .ok (.invokevirtual 56, 3) := by decide +kernel
theorem dX2_findSets_9 : decode cX2_findSets 9 = .ok (.istore 4, 2) := by decide +kernel
theorem dX2_findSets_11 : decode cX2_findSets 11 = .ok (.aload_n 2, 1) := by decide +kernel
theorem dX2_findSets_12 : decode cX2_findSets 12 = .ok (.getfield 60, 3) := by decide +kernel
theorem dX2_findSets_15 : decode cX2_findSets 15 = .ok (.iload 4, 2) := by decide +kernel
theorem dX2_findSets_17 : decode cX2_findSets 17 = .ok (.iadd, 1) := by decide +kernel
theorem dX2_findSets_18 : decode cX2_findSets 18 = .ok (.sipush 9999, 3) := by decide +kernel
theorem dX2_findSets_21 : decode cX2_findSets 21 = .ok (.if_icmp .le 4, 3) := by decide +kernel
theorem dX2_findSets_24 : decode cX2_findSets 24 = .ok (.return_, 1) := by decide +kernel
theorem dX2_findSets_25 : decode cX2_findSets 25 = .ok (.iconst 1, 1) := by decide +kernel
theorem dX2_findSets_26 : decode cX2_findSets 26 = .ok (.aload_n 1, 1) := by decide +kernel
theorem dX2_findSets_27 : decode cX2_findSets 27 = .ok (.getfield 45, 3) := by decide +kernel
theorem dX2_findSets_30 : decode cX2_findSets 30 = .ok (.iconst 1, 1) := by decide +kernel
theorem dX2_findSets_31 : decode cX2_findSets 31 = .ok (.iaload, 1) := by decide +kernel
theorem dX2_findSets_32 : decode cX2_findSets 32 = .ok (.ishl, 1) := by decide +kernel
theorem dX2_findSets_33 : decode cX2_findSets 33 = .ok (.istore 5, 2) := by decide +kernel
theorem dX2_findSets_35 : decode cX2_findSets 35 = .ok (.iconst 1, 1) := by decide +kernel
theorem dX2_findSets_36 : decode cX2_findSets 36 = .ok (.istore 6, 2) := by decide +kernel
theorem dX2_findSets_38 : decode cX2_findSets 38 = .ok (.iload 6, 2) := by decide +kernel
theorem dX2_findSets_40 : decode cX2_findSets 40 = .ok (.iload 5, 2) := by decide +kernel
theorem dX2_findSets_42 : decode cX2_findSets 42 = .ok (.if_icmp .ge 80, 3) := by decide +kernel
theorem dX2_findSets_45 : decode cX2_findSets 45 = .ok (.aload_n 0, 1) := by decide +kernel
theorem dX2_findSets_46 : decode cX2_findSets 46 = .ok (.getfield 36, 3) := by decide +kernel
theorem dX2_findSets_49 : decode cX2_findSets 49 = .ok (.aload_n 0, 1) := by decide +kernel
theorem dX2_findSets_50 : decode cX2_findSets 50 = .ok (.getfield 33, 3) := by decide +kernel
theorem dX2_findSets_53 : decode cX2_findSets 53 = .ok (.arraylength, 1) := by decide +kernel
theorem dX2_findSets_54 : decode cX2_findSets 54 = .ok (.if_icmp .ge 68, 3) := by decide +kernel
theorem dX2_findSets_57 : decode cX2_findSets 57 = .ok (.iload 6, 2) := by decide +kernel
theorem dX2_findSets_59 : decode cX2_findSets 59 = .ok (.invokestatic 63, 3) := by decide +kernel
theorem dX2_findSets_62 : decode cX2_findSets 62 = .ok (.iconst 3, 1) := by decide +kernel
theorem dX2_findSets_63 : decode cX2_findSets 63 = .ok (.if_icmp .gt 53, 3) := by decide +kernel
theorem dX2_findSets_66 : decode cX2_findSets 66 = .ok (.aload_n 0, 1) := by decide +kernel
theorem dX2_findSets_67 : decode cX2_findSets 67 = .ok (.getfield 21, 3) := by decide +kernel
theorem dX2_findSets_70 : decode cX2_findSets 70 = .ok (.aload_n 2, 1) := by decide +kernel
theorem dX2_findSets_71 : decode cX2_findSets 71 = .ok (.invokevirtual 69, 3) := by decide +kernel
theorem dX2_findSets_74 : decode cX2_findSets 74 = .ok (.aload_n 0, 1) := by decide +kernel
theorem dX2_findSets_75 : decode cX2_findSets 75 = .ok (.getfield 21, 3) := by decide +kernel
theorem dX2_findSets_78 : decode cX2_findSets 78 = .ok (.getfield 73, 3) := by decide +kernel
theorem dX2_findSets_81 : decode cX2_findSets 81 = .ok (.iload_n 3, 1) := by decide +kernel
theorem dX2_findSets_82 : decode cX2_findSets 82 = .ok (.iload 6, 2) := by decide +kernel
theorem dX2_findSets_84 : decode cX2_findSets 84 = .ok (.iastore, 1) := by decide +kernel
theorem dX2_findSets_85 : decode cX2_findSets 85 = .ok (.aload_n 0, 1) := by decide +kernel
theorem dX2_findSets_86 : decode cX2_findSets 86 = .ok (.aload_n 1, 1) := by decide +kernel
theorem dX2_findSets_87 : decode cX2_findSets 87 = .ok (.iload 4, 2) := by decide +kernel
theorem dX2_findSets_89 : decode cX2_findSets 89 = .ok (.invokevirtual 76, 3) := by decide +kernel
theorem dX2_findSets_92 : decode cX2_findSets 92 = .ok (.ifCond .eq 24, 3) := by decide +kernel
theorem dX2_findSets_95 : decode cX2_findSets 95 = .ok (.aload_n 0, 1) := by decide +kernel
theorem dX2_findSets_96 : decode cX2_findSets 96 = .ok (.getfield 33, 3) := by decide +kernel
theorem dX2_findSets_99 : decode cX2_findSets 99 = .ok (.aload_n 0, 1) := by decide +kernel
theorem dX2_findSets_100 : decode cX2_findSets 100 = .ok (.getfield 36, 3) := by decide +kernel
theorem dX2_findSets_103 : decode cX2_findSets 103 = .ok (.iload 6, 2) := by decide +kernel
theorem dX2_findSets_105 : decode cX2_findSets 105 = .ok (.iastore, 1) := by decide +kernel
theorem dX2_findSets_106 : decode cX2_findSets 106 = .ok (.aload_n 0, 1) := by decide +kernel
theorem dX2_findSets_107 : decode cX2_findSets 107 = .ok (.dup, 1) := by decide +kernel
theorem dX2_findSets_108 : decode cX2_findSets 108 = .ok (.getfield 36, 3) := by decide +kernel
theorem dX2_findSets_111 : decode cX2_findSets 111 = .ok (.iconst 1, 1) := by decide +kernel
theorem dX2_findSets_112 : decode cX2_findSets 112 = .ok (.iadd, 1) := by decide +kernel
theorem dX2_findSets_113 : decode cX2_findSets 113 = .ok (.putfield 36, 3) := by decide +kernel
theorem dX2_findSets_116 : decode cX2_findSets 116 = .ok (.iinc 6 1, 3) := by decide +kernel
theorem dX2_findSets_119 : decode cX2_findSets 119 = .ok (.goto (-81), 3) := by decide +kernel
theorem dX2_findSets_122 : decode cX2_findSets 122 = .ok (.return_, 1) := by decide +kernel
theorem dX2_lastSeen_0 : decode cX2_lastSeen 0 = .ok (.iconst 0, 1) := by decide +kernel
theorem dX2_lastSeen_1 : decode cX2_lastSeen 1 = .ok (.istore_n 1, 1) := by decide +kernel
theorem dX2_lastSeen_2 : decode cX2_lastSeen 2 = .ok (.iconst 0, 1) := by decide +kernel
theorem dX2_lastSeen_3 : decode cX2_lastSeen 3 = .ok (.istore_n 2, 1) := by decide +kernel
theorem dX2_lastSeen_4 : decode cX2_lastSeen 4 = .ok (.iload_n 2, 1) := by decide +kernel
theorem dX2_lastSeen_5 : decode cX2_lastSeen 5 = .ok (.aload_n 0, 1) := by decide +kernel
theorem dX2_lastSeen_6 : decode cX2_lastSeen 6 = .ok (.getfield 29, 3) := by decide +kernel
theorem dX2_lastSeen_9 : decode cX2_lastSeen 9 = .ok (.if_icmp .ge 24, 3) := by decide +kernel
theorem dX2_lastSeen_12 : decode cX2_lastSeen 12 = .ok (.iload_n 1, 1) := by decide +kernel
theorem dX2_lastSeen_13 : decode cX2_lastSeen 13 = .ok (.aload_n 0, 1) := by decide +kernel
theorem dX2_lastSeen_14 : decode cX2_lastSeen 14 = .ok (.getfield 25, 3) := by decide +kernel
theorem dX2_lastSeen_17 : decode cX2_lastSeen 17 = .ok (.iload_n 2, 1) := by decide +kernel
theorem dX2_lastSeen_18 : decode cX2_lastSeen 18 = .ok (.iconst 4, 1) := by decide +kernel
theorem dX2_lastSeen_19 : decode cX2_lastSeen 19 = .ok (.imul, 1) := by decide +kernel
theorem dX2_lastSeen_20 : decode cX2_lastSeen 20 = .ok (.iconst 2, 1) := by decide +kernel
theorem dX2_lastSeen_21 : decode cX2_lastSeen 21 = .ok (.iadd, 1) := by decide +kernel
theorem dX2_lastSeen_22 : decode cX2_lastSeen 22 = .ok (.iaload, 1) := by decide +kernel
theorem dX2_lastSeen_23 : decode cX2_lastSeen 23 = .ok (.invokestatic 80, 3) := by decide +kernel
theorem dX2_lastSeen_26 : decode cX2_lastSeen 26 = .ok (.istore_n 1, 1) := by decide +kernel
theorem dX2_lastSeen_27 : decode cX2_lastSeen 27 = .ok (.iinc 2 1, 3) := by decide +kernel
theorem dX2_lastSeen_30 : decode cX2_lastSeen 30 = .ok (.goto (-26), 3) := by decide +kernel
theorem dX2_lastSeen_33 : decode cX2_lastSeen 33 = .ok (.iload_n 1, 1) := by decide +kernel
theorem dX2_lastSeen_34 : decode cX2_lastSeen 34 = .ok (.ireturn, 1) := by decide +kernel
theorem dX2_isAsSeen_0 : decode cX2_isAsSeen 0 = .ok (.iconst 0, 1) := by decide +kernel
theorem dX2_isAsSeen_1 : decode cX2_isAsSeen 1 = .ok (.istore_n 3, 1) := by decide +kernel
theorem dX2_isAsSeen_2 : decode cX2_isAsSeen 2 = .ok (.iload_n 3, 1) := by decide +kernel
theorem dX2_isAsSeen_3 : decode cX2_isAsSeen 3 = .ok (.iload_n 2, 1) := by decide +kernel
theorem dX2_isAsSeen_4 : decode cX2_isAsSeen 4 = .ok (.if_icmp .gt 103, 3) := by decide +kernel
theorem dX2_isAsSeen_7 : decode cX2_isAsSeen 7 = .ok (.iload_n 3, 1) := by decide +kernel
theorem dX2_isAsSeen_8 : decode cX2_isAsSeen 8 = .ok (.ifCond .le 15, 3) := by decide +kernel
theorem dX2_isAsSeen_11 : decode cX2_isAsSeen 11 = .ok (.aload_n 0, 1) := by decide +kernel
theorem dX2_isAsSeen_12 : decode cX2_isAsSeen 12 = .ok (.getfield 12, 3) := by decide +kernel
theorem dX2_isAsSeen_15 : decode cX2_isAsSeen 15 = .ok (.aload_n 1, 1) := by decide +kernel
theorem dX2_isAsSeen_16 : decode cX2_isAsSeen 16 = .ok (.aload_n 0, 1) := by decide +kernel
theorem dX2_isAsSeen_17 : decode cX2_isAsSeen 17 = .ok (.getfield 21, 3) := by decide +kernel
theorem dX2_isAsSeen_20 : decode cX2_isAsSeen 20 = .ok (.invokevirtual 86, 3) := by decide +kernel
theorem dX2_isAsSeen_23 : decode cX2_isAsSeen 23 = .ok (.iconst 0, 1) := by decide +kernel
theorem dX2_isAsSeen_24 : decode cX2_isAsSeen 24 = .ok (.istore 4, 2) := by decide +kernel
theorem dX2_isAsSeen_26 : decode cX2_isAsSeen 26 = .ok (.iload 4, 2) := by decide +kernel
theorem dX2_isAsSeen_28 : decode cX2_isAsSeen 28 = .ok (.aload_n 0, 1) := by decide +kernel
theorem dX2_isAsSeen_29 : decode cX2_isAsSeen 29 = .ok (.getfield 29, 3) := by decide +kernel
theorem dX2_isAsSeen_32 : decode cX2_isAsSeen 32 = .ok (.if_icmp .ge 69, 3) := by decide +kernel
theorem dX2_isAsSeen_35 : decode cX2_isAsSeen 35 = .ok (.iload 4, 2) := by decide +kernel
theorem dX2_isAsSeen_37 : decode cX2_isAsSeen 37 = .ok (.iconst 4, 1) := by decide +kernel
theorem dX2_isAsSeen_38 : decode cX2_isAsSeen 38 = .ok (.imul, 1) := by decide +kernel
theorem dX2_isAsSeen_39 : decode cX2_isAsSeen 39 = .ok (.istore 5, 2) := by decide +kernel
theorem dX2_isAsSeen_41 : decode cX2_isAsSeen 41 = .ok (.aload_n 0, 1) := by decide +kernel
theorem dX2_isAsSeen_42 : decode cX2_isAsSeen 42 = .ok (.getfield 25, 3) := by decide +kernel
theorem dX2_isAsSeen_45 : decode cX2_isAsSeen 45 = .ok (.iload 5, 2) := by decide +kernel
theorem dX2_isAsSeen_47 : decode cX2_isAsSeen 47 = .ok (.iconst 2, 1) := by decide +kernel
theorem dX2_isAsSeen_48 : decode cX2_isAsSeen 48 = .ok (.iadd, 1) := by decide +kernel
theorem dX2_isAsSeen_49 : decode cX2_isAsSeen 49 = .ok (.iaload, 1) := by decide +kernel
theorem dX2_isAsSeen_50 : decode cX2_isAsSeen 50 = .ok (.iload_n 3, 1) := by decide +kernel
theorem dX2_isAsSeen_51 : decode cX2_isAsSeen 51 = .ok (.if_icmp .ne 44, 3) := by decide +kernel
theorem dX2_isAsSeen_54 : decode cX2_isAsSeen 54 = .ok (.aload_n 0, 1) := by decide +kernel
theorem dX2_isAsSeen_55 : decode cX2_isAsSeen 55 = .ok (.getfield 21, 3) := by decide +kernel
theorem dX2_isAsSeen_58 : decode cX2_isAsSeen 58 = .ok (.getfield 90, 3) := by decide +kernel
theorem dX2_isAsSeen_61 : decode cX2_isAsSeen 61 = .ok (.aload_n 0, 1) := by decide +kernel
theorem dX2_isAsSeen_62 : decode cX2_isAsSeen 62 = .ok (.getfield 25, 3) := by decide +kernel
theorem dX2_isAsSeen_65 : decode cX2_isAsSeen 65 = .ok (.iload 5, 2) := by decide +kernel
theorem dX2_isAsSeen_67 : decode cX2_isAsSeen 67 = .ok (.iaload, 1) := by decide +kernel
theorem dX2_isAsSeen_68 : decode cX2_isAsSeen 68 = .ok (.iconst 4, 1) := by decide +kernel
theorem dX2_isAsSeen_69 : decode cX2_isAsSeen 69 = .ok (.imul, 1) := by decide +kernel
theorem dX2_isAsSeen_70 : decode cX2_isAsSeen 70 = .ok (.aload_n 0, 1) := by decide +kernel
theorem dX2_isAsSeen_71 : decode cX2_isAsSeen 71 = .ok (.getfield 25, 3) := by decide +kernel
theorem dX2_isAsSeen_74 : decode cX2_isAsSeen 74 = .ok (.iload 5, 2) := by decide +kernel
theorem dX2_isAsSeen_76 : decode cX2_isAsSeen 76 = .ok (.iconst 1, 1) := by decide +kernel
theorem dX2_isAsSeen_77 : decode cX2_isAsSeen 77 = .ok (.iadd, 1) := by decide +kernel
theorem dX2_isAsSeen_78 : decode cX2_isAsSeen 78 = .ok (.iaload, 1) := by decide +kernel
theorem dX2_isAsSeen_79 : decode cX2_isAsSeen 79 = .ok (.iadd, 1) := by decide +kernel
theorem dX2_isAsSeen_80 : decode cX2_isAsSeen 80 = .ok (.iaload, 1) := by decide +kernel
theorem dX2_isAsSeen_81 : decode cX2_isAsSeen 81 = .ok (.aload_n 0, 1) := by decide +kernel
theorem dX2_isAsSeen_82 : decode cX2_isAsSeen 82 = .ok (.getfield 25, 3) := by decide +kernel
theorem dX2_isAsSeen_85 : decode cX2_isAsSeen 85 = .ok (.iload 5, 2) := by decide +kernel
theorem dX2_isAsSeen_87 : decode cX2_isAsSeen 87 = .ok (.iconst 3, 1) := by decide +kernel
theorem dX2_isAsSeen_88 : decode cX2_isAsSeen 88 = .ok (.iadd, 1) := by decide +kernel
theorem dX2_isAsSeen_89 : decode cX2_isAsSeen 89 = .ok (.iaload, 1) := by decide +kernel
theorem dX2_isAsSeen_90 : decode cX2_isAsSeen 90 = .ok (.if_icmp .eq 5, 3) := by decide +kernel
theorem dX2_isAsSeen_93 : decode cX2_isAsSeen 93 = .ok (.iconst 0, 1) := by decide +kernel
theorem dX2_isAsSeen_94 : decode cX2_isAsSeen 94 = .ok (.ireturn, 1) := by decide +kernel
theorem dX2_isAsSeen_95 : decode cX2_isAsSeen 95 = .ok (.iinc 4 1, 3) := by decide +kernel
theorem dX2_isAsSeen_98 : decode cX2_isAsSeen 98 = .ok (.goto (-72), 3) := by decide +kernel
theorem dX2_isAsSeen_101 : decode cX2_isAsSeen 101 = .ok (.iinc 3 1, 3) := by decide +kernel
theorem dX2_isAsSeen_104 : decode cX2_isAsSeen 104 = .ok (.goto (-102), 3) := by decide +kernel
theorem dX2_isAsSeen_107 : decode cX2_isAsSeen 107 = .ok (.iconst 1, 1) := by decide +kernel
theorem dX2_isAsSeen_108 : decode cX2_isAsSeen 108 = .ok (.ireturn, 1) := by decide +kernel
theorem dX2_inAll_0 : decode cX2_inAll 0 = .ok (.aload_n 0, 1) := by decide +kernel
theorem dX2_inAll_1 : decode cX2_inAll 1 = .ok (.getfield 36, 3) := by decide +kernel
theorem dX2_inAll_4 : decode cX2_inAll 4 = .ok (.ifCond .le 12, 3) := by decide +kernel
theorem dX2_inAll_7 : decode cX2_inAll 7 = .ok (.aload_n 0, 1) := by decide +kernel
theorem dX2_inAll_8 : decode cX2_inAll 8 = .ok (.getfield 33, 3) := by decide +kernel
theorem dX2_inAll_11 : decode cX2_inAll 11 = .ok (.iconst 0, 1) := by decide +kernel
theorem dX2_inAll_12 : decode cX2_inAll 12 = .ok (.iaload, 1) := by decide +kernel
theorem dX2_inAll_13 : decode cX2_inAll 13 = .ok (.goto 4, 3) := by decide +kernel
theorem dX2_inAll_16 : decode cX2_inAll 16 = .ok (.iconst 0, 1) := by decide +kernel
theorem dX2_inAll_17 : decode cX2_inAll 17 = .ok (.istore_n 1, 1) := by decide +kernel
theorem dX2_inAll_18 : decode cX2_inAll 18 = .ok (.iconst 1, 1) := by decide +kernel
theorem dX2_inAll_19 : decode cX2_inAll 19 = .ok (.istore_n 2, 1) := by decide +kernel
theorem dX2_inAll_20 : decode cX2_inAll 20 = .ok (.iload_n 2, 1) := by decide +kernel
theorem dX2_inAll_21 : decode cX2_inAll 21 = .ok (.aload_n 0, 1) := by decide +kernel
theorem dX2_inAll_22 : decode cX2_inAll 22 = .ok (.getfield 36, 3) := by decide +kernel
theorem dX2_inAll_25 : decode cX2_inAll 25 = .ok (.if_icmp .ge 18, 3) := by decide +kernel
theorem dX2_inAll_28 : decode cX2_inAll 28 = .ok (.iload_n 1, 1) := by decide +kernel
theorem dX2_inAll_29 : decode cX2_inAll 29 = .ok (.aload_n 0, 1) := by decide +kernel
theorem dX2_inAll_30 : decode cX2_inAll 30 = .ok (.getfield 33, 3) := by decide +kernel
theorem dX2_inAll_33 : decode cX2_inAll 33 = .ok (.iload_n 2, 1) := by decide +kernel
theorem dX2_inAll_34 : decode cX2_inAll 34 = .ok (.iaload, 1) := by decide +kernel
theorem dX2_inAll_35 : decode cX2_inAll 35 = .ok (.iand, 1) := by decide +kernel
theorem dX2_inAll_36 : decode cX2_inAll 36 = .ok (.istore_n 1, 1) := by decide +kernel
theorem dX2_inAll_37 : decode cX2_inAll 37 = .ok (.iinc 2 1, 3) := by decide +kernel
theorem dX2_inAll_40 : decode cX2_inAll 40 = .ok (.goto (-20), 3) := by decide +kernel
theorem dX2_inAll_43 : decode cX2_inAll 43 = .ok (.iload_n 1, 1) := by decide +kernel
theorem dX2_inAll_44 : decode cX2_inAll 44 = .ok (.ireturn, 1) := by decide +kernel
theorem dX2_inSome_0 : decode cX2_inSome 0 = .ok (.iconst 0, 1) := by decide +kernel
theorem dX2_inSome_1 : decode cX2_inSome 1 = .ok (.istore_n 1, 1) := by decide +kernel
theorem dX2_inSome_2 : decode cX2_inSome 2 = .ok (.iconst 0, 1) := by decide +kernel
theorem dX2_inSome_3 : decode cX2_inSome 3 = .ok (.istore_n 2, 1) := by decide +kernel
theorem dX2_inSome_4 : decode cX2_inSome 4 = .ok (.iload_n 2, 1) := by decide +kernel
theorem dX2_inSome_5 : decode cX2_inSome 5 = .ok (.aload_n 0, 1) := by decide +kernel
theorem dX2_inSome_6 : decode cX2_inSome 6 = .ok (.getfield 36, 3) := by decide +kernel
theorem dX2_inSome_9 : decode cX2_inSome 9 = .ok (.if_icmp .ge 18, 3) := by decide +kernel
theorem dX2_inSome_12 : decode cX2_inSome 12 = .ok (.iload_n 1, 1) := by decide +kernel
theorem dX2_inSome_13 : decode cX2_inSome 13 = .ok (.aload_n 0, 1) := by decide +kernel
theorem dX2_inSome_14 : decode cX2_inSome 14 = .ok (.getfield 33, 3) := by decide +kernel
theorem dX2_inSome_17 : decode cX2_inSome 17 = .ok (.iload_n 2, 1) := by decide +kernel
theorem dX2_inSome_18 : decode cX2_inSome 18 = .ok (.iaload, 1) := by decide +kernel
theorem dX2_inSome_19 : decode cX2_inSome 19 = .ok (.ior, 1) := by decide +kernel
theorem dX2_inSome_20 : decode cX2_inSome 20 = .ok (.istore_n 1, 1) := by decide +kernel
theorem dX2_inSome_21 : decode cX2_inSome 21 = .ok (.iinc 2 1, 3) := by decide +kernel
theorem dX2_inSome_24 : decode cX2_inSome 24 = .ok (.goto (-20), 3) := by decide +kernel
theorem dX2_inSome_27 : decode cX2_inSome 27 = .ok (.iload_n 1, 1) := by decide +kernel
theorem dX2_inSome_28 : decode cX2_inSome 28 = .ok (.ireturn, 1) := by decide +kernel
theorem dX2_foresee_0 : decode cX2_foresee 0 = .ok (.iconst 0, 1) := by decide +kernel
theorem dX2_foresee_1 : decode cX2_foresee 1 = .ok (.istore 5, 2) := by decide +kernel
theorem dX2_foresee_3 : decode cX2_foresee 3 = .ok (.iload 5, 2) := by decide +kernel
theorem dX2_foresee_5 : decode cX2_foresee 5 = .ok (.aload_n 0, 1) := by decide +kernel
theorem dX2_foresee_6 : decode cX2_foresee 6 = .ok (.getfield 36, 3) := by decide +kernel
theorem dX2_foresee_9 : decode cX2_foresee 9 = .ok (.if_icmp .ge 69, 3) := by decide +kernel
theorem dX2_foresee_12 : decode cX2_foresee 12 = .ok (.aload_n 0, 1) := by decide +kernel
theorem dX2_foresee_13 : decode cX2_foresee 13 = .ok (.getfield 21, 3) := by decide +kernel
theorem dX2_foresee_16 : decode cX2_foresee 16 = .ok (.aload_n 2, 1) := by decide +kernel
theorem dX2_foresee_17 : decode cX2_foresee 17 = .ok (.invokevirtual 69, 3) := by decide +kernel
theorem dX2_foresee_20 : decode cX2_foresee 20 = .ok (.aload_n 0, 1) := by decide +kernel
theorem dX2_foresee_21 : decode cX2_foresee 21 = .ok (.getfield 21, 3) := by decide +kernel
theorem dX2_foresee_24 : decode cX2_foresee 24 = .ok (.getfield 73, 3) := by decide +kernel
theorem dX2_foresee_27 : decode cX2_foresee 27 = .ok (.iload_n 3, 1) := by decide +kernel
theorem dX2_foresee_28 : decode cX2_foresee 28 = .ok (.aload_n 0, 1) := by decide +kernel
theorem dX2_foresee_29 : decode cX2_foresee 29 = .ok (.getfield 33, 3) := by decide +kernel
theorem dX2_foresee_32 : decode cX2_foresee 32 = .ok (.iload 5, 2) := by decide +kernel
theorem dX2_foresee_34 : decode cX2_foresee 34 = .ok (.iaload, 1) := by decide +kernel
theorem dX2_foresee_35 : decode cX2_foresee 35 = .ok (.iastore, 1) := by decide +kernel
theorem dX2_foresee_36 : decode cX2_foresee 36 = .ok (.aload_n 0, 1) := by decide +kernel
theorem dX2_foresee_37 : decode cX2_foresee 37 = .ok (.getfield 12, 3) := by decide +kernel
theorem dX2_foresee_40 : decode cX2_foresee 40 = .ok (.aload_n 1, 1) := by decide +kernel
theorem dX2_foresee_41 : decode cX2_foresee 41 = .ok (.aload_n 0, 1) := by decide +kernel
theorem dX2_foresee_42 : decode cX2_foresee 42 = .ok (.getfield 21, 3) := by decide +kernel
theorem dX2_foresee_45 : decode cX2_foresee 45 = .ok (.iload 4, 2) := by decide +kernel
theorem dX2_foresee_47 : decode cX2_foresee 47 = .ok (.invokevirtual 93, 3) := by decide +kernel
theorem dX2_foresee_50 : decode cX2_foresee 50 = .ok (.aload_n 0, 1) := by decide +kernel
theorem dX2_foresee_51 : decode cX2_foresee 51 = .ok (.getfield 21, 3) := by decide +kernel
theorem dX2_foresee_54 : decode cX2_foresee 54 = .ok (.getfield 90, 3) := by decide +kernel
theorem dX2_foresee_57 : decode cX2_foresee 57 = .ok (.iconst 0, 1) := by decide +kernel
theorem dX2_foresee_58 : decode cX2_foresee 58 = .ok (.aload_n 0, 1) := by decide +kernel
theorem dX2_foresee_59 : decode cX2_foresee 59 = .ok (.getfield 39, 3) := by decide +kernel
theorem dX2_foresee_62 : decode cX2_foresee 62 = .ok (.iload 5, 2) := by decide +kernel
theorem dX2_foresee_64 : decode cX2_foresee 64 = .ok (.bipush 32, 2) := by decide +kernel
theorem dX2_foresee_66 : decode cX2_foresee 66 = .ok (.imul, 1) := by decide +kernel
theorem dX2_foresee_67 : decode cX2_foresee 67 = .ok (.bipush 32, 2) := by decide +kernel
theorem dX2_foresee_69 : decode cX2_foresee 69 = .ok (.invokestatic 50, 3) := by decide +kernel
theorem dX2_foresee_72 : decode cX2_foresee 72 = .ok (.iinc 5 1, 3) := by decide +kernel
theorem dX2_foresee_75 : decode cX2_foresee 75 = .ok (.goto (-72), 3) := by decide +kernel
theorem dX2_foresee_78 : decode cX2_foresee 78 = .ok (.return_, 1) := by decide +kernel
theorem dX2_mostAlike_0 : decode cX2_mostAlike 0 = .ok (.iconst 0, 1) := by decide +kernel
theorem dX2_mostAlike_1 : decode cX2_mostAlike 1 = .ok (.istore_n 2, 1) := by decide +kernel
theorem dX2_mostAlike_2 : decode cX2_mostAlike 2 = .ok (.aload_n 0, 1) := by decide +kernel
theorem dX2_mostAlike_3 : decode cX2_mostAlike 3 = .ok (.getfield 42, 3) := by decide +kernel
theorem dX2_mostAlike_6 : decode cX2_mostAlike 6 = .ok (.iconst 0, 1) := by decide +kernel
theorem dX2_mostAlike_7 : decode cX2_mostAlike 7 = .ok (.invokestatic 97, 3) := by decide +kernel
theorem dX2_mostAlike_10 : decode cX2_mostAlike 10 = .ok (.iconst 0, 1) := by decide +kernel
theorem dX2_mostAlike_11 : decode cX2_mostAlike 11 = .ok (.istore_n 3, 1) := by decide +kernel
theorem dX2_mostAlike_12 : decode cX2_mostAlike 12 = .ok (.iload_n 3, 1) := by decide +kernel
theorem dX2_mostAlike_13 : decode cX2_mostAlike 13 = .ok (.aload_n 0, 1) := by decide +kernel
theorem dX2_mostAlike_14 : decode cX2_mostAlike 14 = .ok (.getfield 36, 3) := by decide +kernel
theorem dX2_mostAlike_17 : decode cX2_mostAlike 17 = .ok (.if_icmp .ge 48, 3) := by decide +kernel
theorem dX2_mostAlike_20 : decode cX2_mostAlike 20 = .ok (.aload_n 0, 1) := by decide +kernel
theorem dX2_mostAlike_21 : decode cX2_mostAlike 21 = .ok (.getfield 39, 3) := by decide +kernel
theorem dX2_mostAlike_24 : decode cX2_mostAlike 24 = .ok (.iload_n 3, 1) := by decide +kernel
theorem dX2_mostAlike_25 : decode cX2_mostAlike 25 = .ok (.bipush 32, 2) := by decide +kernel
theorem dX2_mostAlike_27 : decode cX2_mostAlike 27 = .ok (.imul, 1) := by decide +kernel
theorem dX2_mostAlike_28 : decode cX2_mostAlike 28 = .ok (.iload_n 1, 1) := by decide +kernel
theorem dX2_mostAlike_29 : decode cX2_mostAlike 29 = .ok (.iadd, 1) := by decide +kernel
theorem dX2_mostAlike_30 : decode cX2_mostAlike 30 = .ok (.iaload, 1) := by decide +kernel
theorem dX2_mostAlike_31 : decode cX2_mostAlike 31 = .ok (.invokestatic 103, 3) := by decide +kernel
theorem dX2_mostAlike_34 : decode cX2_mostAlike 34 = .ok (.istore 4, 2) := by decide +kernel
theorem dX2_mostAlike_36 : decode cX2_mostAlike 36 = .ok (.aload_n 0, 1) := by decide +kernel
theorem dX2_mostAlike_37 : decode cX2_mostAlike 37 = .ok (.getfield 42, 3) := by decide +kernel
theorem dX2_mostAlike_40 : decode cX2_mostAlike 40 = .ok (.iload 4, 2) := by decide +kernel
theorem dX2_mostAlike_42 : decode cX2_mostAlike 42 = .ok (.dup2, 1) := by decide +kernel
theorem dX2_mostAlike_43 : decode cX2_mostAlike 43 = .ok (.iaload, 1) := by decide +kernel
theorem dX2_mostAlike_44 : decode cX2_mostAlike 44 = .ok (.iconst 1, 1) := by decide +kernel
theorem dX2_mostAlike_45 : decode cX2_mostAlike 45 = .ok (.iadd, 1) := by decide +kernel
theorem dX2_mostAlike_46 : decode cX2_mostAlike 46 = .ok (.iastore, 1) := by decide +kernel
theorem dX2_mostAlike_47 : decode cX2_mostAlike 47 = .ok (.iload_n 2, 1) := by decide +kernel
theorem dX2_mostAlike_48 : decode cX2_mostAlike 48 = .ok (.aload_n 0, 1) := by decide +kernel
theorem dX2_mostAlike_49 : decode cX2_mostAlike 49 = .ok (.getfield 42, 3) := by decide +kernel
theorem dX2_mostAlike_52 : decode cX2_mostAlike 52 = .ok (.iload 4, 2) := by decide +kernel
theorem dX2_mostAlike_54 : decode cX2_mostAlike 54 = .ok (.iaload, 1) := by decide +kernel
theorem dX2_mostAlike_55 : decode cX2_mostAlike 55 = .ok (.invokestatic 80, 3) := by decide +kernel
theorem dX2_mostAlike_58 : decode cX2_mostAlike 58 = .ok (.istore_n 2, 1) := by decide +kernel
theorem dX2_mostAlike_59 : decode cX2_mostAlike 59 = .ok (.iinc 3 1, 3) := by decide +kernel
theorem dX2_mostAlike_62 : decode cX2_mostAlike 62 = .ok (.goto (-50), 3) := by decide +kernel
theorem dX2_mostAlike_65 : decode cX2_mostAlike 65 = .ok (.iload_n 2, 1) := by decide +kernel
theorem dX2_mostAlike_66 : decode cX2_mostAlike 66 = .ok (.ireturn, 1) := by decide +kernel
theorem dX3_init_0 : decode cX3_init 0 = .ok (.aload_n 0, 1) := by decide +kernel
theorem dX3_init_1 : decode cX3_init 1 = .ok (.invokespecial 3, 3) := by decide +kernel
theorem dX3_init_4 : decode cX3_init 4 = .ok (.aload_n 0, 1) := by decide +kernel
theorem dX3_init_5 : decode cX3_init 5 = .ok (.bipush 20, 2) := by decide +kernel
theorem dX3_init_7 : decode cX3_init 7 = .ok (.anewarray 9, 3) := by decide +kernel
theorem dX3_init_10 : decode cX3_init 10 = .ok (.putfield 11, 3) := by decide +kernel
theorem dX3_init_13 : decode cX3_init 13 = .ok (.aload_n 0, 1) := by decide +kernel
theorem dX3_init_14 : decode cX3_init 14 = .ok (.iconst 0, 1) := by decide +kernel
theorem dX3_init_15 : decode cX3_init 15 = .ok (.putfield 17, 3) := by decide +kernel
theorem dX3_init_18 : decode cX3_init 18 = .ok (.aload_n 0, 1) := by decide +kernel
theorem dX3_init_19 : decode cX3_init 19 = .ok (.iconst 0, 1) := by decide +kernel
theorem dX3_init_20 : decode cX3_init 20 = .ok (.putfield 21, 3) := by decide +kernel
theorem dX3_init_23 : decode cX3_init 23 = .ok (.iconst 0, 1) := by decide +kernel
theorem dX3_init_24 : decode cX3_init 24 = .ok (.istore_n 1, 1) := by decide +kernel
theorem dX3_init_25 : decode cX3_init 25 = .ok (.iload_n 1, 1) := by decide +kernel
theorem dX3_init_26 : decode cX3_init 26 = .ok (.aload_n 0, 1) := by decide +kernel
theorem dX3_init_27 : decode cX3_init 27 = .ok (.getfield 11, 3) := by decide +kernel
theorem dX3_init_30 : decode cX3_init 30 = .ok (.arraylength, 1) := by decide +kernel
theorem dX3_init_31 : decode cX3_init 31 = .ok (.if_icmp .ge 22, 3) := by decide +kernel
theorem dX3_init_34 : decode cX3_init 34 = .ok (.aload_n 0, 1) := by decide +kernel
theorem dX3_init_35 : decode cX3_init 35 = .ok (.getfield 11, 3) := by decide +kernel
theorem dX3_init_38 : decode cX3_init 38 = .ok (.iload_n 1, 1) := by decide +kernel
theorem dX3_init_39 : decode cX3_init 39 = .ok (.new 9, 3) := by decide +kernel
theorem dX3_init_42 : decode cX3_init 42 = .ok (.dup, 1) := by decide +kernel
theorem dX3_init_43 : decode cX3_init 43 = .ok (.invokespecial 24, 3) := by decide +kernel
theorem dX3_init_46 : decode cX3_init 46 = .ok (.aastore, 1) := by decide +kernel
theorem dX3_init_47 : decode cX3_init 47 = .ok (.iinc 1 1, 3) := by decide +kernel
theorem dX3_init_50 : decode cX3_init 50 = .ok (.goto (-25), 3) := by decide +kernel
theorem dX3_init_53 : decode cX3_init 53 = .ok (.return_, 1) := by decide +kernel
theorem dX3_keep_0 : decode cX3_keep 0 = .ok (.aload_n 0, 1) := by decide +kernel
theorem dX3_keep_1 : decode cX3_keep 1 = .ok (.getfield 11, 3) := by decide +kernel
theorem dX3_keep_4 : decode cX3_keep 4 = .ok (.aload_n 0, 1) := by decide +kernel
theorem dX3_keep_5 : decode cX3_keep 5 = .ok (.getfield 17, 3) := by decide +kernel
theorem dX3_keep_8 : decode cX3_keep 8 = .ok (.aaload, 1) := by decide +kernel
theorem dX3_keep_9 : decode cX3_keep 9 = .ok (.aload_n 1, 1) := by decide +kernel
theorem dX3_keep_10 : decode cX3_keep 10 = .ok (.invokevirtual 25, 3) := by decide +kernel
theorem dX3_keep_13 : decode cX3_keep 13 = .ok (.aload_n 0, 1) := by decide +kernel
theorem dX3_keep_14 : decode cX3_keep 14 = .ok (.aload_n 0, 1) := by decide +kernel
theorem dX3_keep_15 : decode cX3_keep 15 = .ok (.getfield 17, 3) := by decide +kernel
theorem dX3_keep_18 : decode cX3_keep 18 = .ok (.iconst 1, 1) := by decide +kernel
theorem dX3_keep_19 : decode cX3_keep 19 = .ok (.iadd, 1) := by decide +kernel
theorem dX3_keep_20 : decode cX3_keep 20 = .ok (.bipush 20, 2) := by decide +kernel
theorem dX3_keep_22 : decode cX3_keep 22 = .ok (.irem, 1) := by decide +kernel
theorem dX3_keep_23 : decode cX3_keep 23 = .ok (.putfield 17, 3) := by decide +kernel
theorem dX3_keep_26 : decode cX3_keep 26 = .ok (.aload_n 0, 1) := by decide +kernel
theorem dX3_keep_27 : decode cX3_keep 27 = .ok (.aload_n 0, 1) := by decide +kernel
theorem dX3_keep_28 : decode cX3_keep 28 = .ok (.getfield 21, 3) := by decide +kernel
theorem dX3_keep_31 : decode cX3_keep 31 = .ok (.iconst 1, 1) := by decide +kernel
theorem dX3_keep_32 : decode cX3_keep 32 = .ok (.iadd, 1) := by decide +kernel
theorem dX3_keep_33 : decode cX3_keep 33 = .ok (.bipush 20, 2) := by decide +kernel
theorem dX3_keep_35 : decode cX3_keep 35 = .ok (.invokestatic 29, 3) := by decide +kernel
theorem dX3_keep_38 : decode cX3_keep 38 = .ok (.putfield 21, 3) := by decide +kernel
theorem dX3_keep_41 : decode cX3_keep 41 = .ok (.return_, 1) := by decide +kernel
theorem dX3_takeBack_0 : decode cX3_takeBack 0 = .ok (.aload_n 0, 1) := by decide +kernel
theorem dX3_takeBack_1 : decode cX3_takeBack 1 = .ok (.getfield 21, 3) := by decide +kernel
theorem dX3_takeBack_4 : decode cX3_takeBack 4 = .ok (.ifCond .gt 5, 3) := by decide +kernel
theorem dX3_takeBack_7 : decode cX3_takeBack 7 = .ok (.iconst 0, 1) := by decide +kernel
theorem dX3_takeBack_8 : decode cX3_takeBack 8 = .ok (.ireturn, 1) := by decide +kernel
theorem dX3_takeBack_9 : decode cX3_takeBack 9 = .ok (.aload_n 0, 1) := by decide +kernel
theorem dX3_takeBack_10 : decode cX3_takeBack 10 = .ok (.aload_n 0, 1) := by decide +kernel
theorem dX3_takeBack_11 : decode cX3_takeBack 11 = .ok (.getfield 17, 3) := by decide +kernel
theorem dX3_takeBack_14 : decode cX3_takeBack 14 = .ok (.bipush 20, 2) := by decide +kernel
theorem dX3_takeBack_16 : decode cX3_takeBack 16 = .ok (.iadd, 1) := by decide +kernel
theorem dX3_takeBack_17 : decode cX3_takeBack 17 = .ok (.iconst 1, 1) := by decide +kernel
theorem dX3_takeBack_18 : decode cX3_takeBack 18 = .ok (.isub, 1) := by decide +kernel
theorem dX3_takeBack_19 : decode cX3_takeBack 19 = .ok (.bipush 20, 2) := by decide +kernel
theorem dX3_takeBack_21 : decode cX3_takeBack 21 = .ok (.irem, 1) := by decide +kernel
theorem dX3_takeBack_22 : decode cX3_takeBack 22 = .ok (.putfield 17, 3) := by decide +kernel
theorem dX3_takeBack_25 : decode cX3_takeBack 25 = .ok (.aload_n 0, 1) := by decide +kernel
theorem dX3_takeBack_26 : decode cX3_takeBack 26 = .ok (.dup, 1) := by decide +kernel
theorem dX3_takeBack_27 : decode cX3_takeBack 27 = .ok (.getfield 21, 3) := by decide +kernel
theorem dX3_takeBack_30 : decode cX3_takeBack 30 = .ok (.iconst 1, 1) := by decide +kernel
theorem dX3_takeBack_31 : decode cX3_takeBack 31 = .ok (.isub, 1) := by decide +kernel
theorem dX3_takeBack_32 : decode cX3_takeBack 32 = .ok (.putfield 21, 3) := by decide +kernel
theorem dX3_takeBack_35 : decode cX3_takeBack 35 = .ok (.aload_n 1, 1) := by decide +kernel
theorem dX3_takeBack_36 : decode cX3_takeBack 36 = .ok (.aload_n 0, 1) := by decide +kernel
theorem dX3_takeBack_37 : decode cX3_takeBack 37 = .ok (.getfield 11, 3) := by decide +kernel
theorem dX3_takeBack_40 : decode cX3_takeBack 40 = .ok (.aload_n 0, 1) := by decide +kernel
theorem dX3_takeBack_41 : decode cX3_takeBack 41 = .ok (.getfield 17, 3) := by decide +kernel
theorem dX3_takeBack_44 : decode cX3_takeBack 44 = .ok (.aaload, 1) := by decide +kernel
theorem dX3_takeBack_45 : decode cX3_takeBack 45 = .ok (.invokevirtual 25, 3) := by decide +kernel
theorem dX3_takeBack_48 : decode cX3_takeBack 48 = .ok (.iconst 1, 1) := by decide +kernel
theorem dX3_takeBack_49 : decode cX3_takeBack 49 = .ok (.ireturn, 1) := by decide +kernel
theorem dX4_init_0 : decode cX4_init 0 = .ok (.aload_n 0, 1) := by decide +kernel
theorem dX4_init_1 : decode cX4_init 1 = .ok (.invokespecial 3, 3) := by decide +kernel
theorem dX4_init_4 : decode cX4_init 4 = .ok (.aload_n 0, 1) := by decide +kernel
theorem dX4_init_5 : decode cX4_init 5 = .ok (.bipush 97, 2) := by decide +kernel
theorem dX4_init_7 : decode cX4_init 7 = .ok (.newarray .int, 2) := by decide +kernel
theorem dX4_init_9 : decode cX4_init 9 = .ok (.putfield 9, 3) := by decide +kernel
theorem dX4_init_12 : decode cX4_init 12 = .ok (.aload_n 0, 1) := by decide +kernel
theorem dX4_init_13 : decode cX4_init 13 = .ok (.iconst 0, 1) := by decide +kernel
theorem dX4_init_14 : decode cX4_init 14 = .ok (.putfield 15, 3) := by decide +kernel
theorem dX4_init_17 : decode cX4_init 17 = .ok (.return_, 1) := by decide +kernel
theorem dX4_write_0 : decode cX4_write 0 = .ok (.aload_n 0, 1) := by decide +kernel
theorem dX4_write_1 : decode cX4_write 1 = .ok (.iconst 0, 1) := by decide +kernel
theorem dX4_write_2 : decode cX4_write 2 = .ok (.putfield 15, 3) := by decide +kernel
theorem dX4_write_5 : decode cX4_write 5 = .ok (.aload_n 0, 1) := by decide +kernel
theorem dX4_write_6 : decode cX4_write 6 = .ok (.aload_n 2, 1) := by decide +kernel
theorem dX4_write_7 : decode cX4_write 7 = .ok (.getfield 19, 3) := by decide +kernel
theorem dX4_write_10 : decode cX4_write 10 = .ok (.bipush 8, 2) := by decide +kernel
theorem dX4_write_12 : decode cX4_write 12 = .ok (.ishr, 1) := by decide +kernel
theorem dX4_write_13 : decode cX4_write 13 = .ok (.invokevirtual 24, 3) := by decide +kernel
theorem dX4_write_16 : decode cX4_write 16 = .ok (.aload_n 0, 1) := by decide +kernel
theorem dX4_write_17 : decode cX4_write 17 = .ok (.aload_n 2, 1) := by decide +kernel
theorem dX4_write_18 : decode cX4_write 18 = .ok (.getfield 19, 3) := by decide +kernel
theorem dX4_write_21 : decode cX4_write 21 = .ok (.sipush 255, 3) := by decide +kernel
theorem dX4_write_24 : decode cX4_write 24 = .ok (.iand, 1) := by decide +kernel
theorem dX4_write_25 : decode cX4_write 25 = .ok (.invokevirtual 24, 3) := by decide +kernel
theorem dX4_write_28 : decode cX4_write 28 = .ok (.iconst 0, 1) := by decide +kernel
theorem dX4_write_29 : decode cX4_write 29 = .ok (.istore_n 3, 1) := by decide +kernel
theorem dX4_write_30 : decode cX4_write 30 = .ok (.iload_n 3, 1) := by decide +kernel
theorem dX4_write_31 : decode cX4_write 31 = .ok (.aload_n 1, 1) := by decide +kernel
theorem dX4_write_32 : decode cX4_write 32 = .ok (.getfield 28, 3) := by decide +kernel
theorem dX4_write_35 : decode cX4_write 35 = .ok (.iconst 1, 1) := by decide +kernel
theorem dX4_write_36 : decode cX4_write 36 = .ok (.iaload, 1) := by decide +kernel
theorem dX4_write_37 : decode cX4_write 37 = .ok (.if_icmp .ge 59, 3) := by decide +kernel
theorem dX4_write_40 : decode cX4_write 40 = .ok (.iconst 0, 1) := by decide +kernel
theorem dX4_write_41 : decode cX4_write 41 = .ok (.istore 4, 2) := by decide +kernel
theorem dX4_write_43 : decode cX4_write 43 = .ok (.iload 4, 2) := by decide +kernel
theorem dX4_write_45 : decode cX4_write 45 = .ok (.aload_n 1, 1) := by decide +kernel
theorem dX4_write_46 : decode cX4_write 46 = .ok (.getfield 28, 3) := by decide +kernel
theorem dX4_write_49 : decode cX4_write 49 = .ok (.iconst 0, 1) := by decide +kernel
theorem dX4_write_50 : decode cX4_write 50 = .ok (.iaload, 1) := by decide +kernel
theorem dX4_write_51 : decode cX4_write 51 = .ok (.if_icmp .ge 39, 3) := by decide +kernel
theorem dX4_write_54 : decode cX4_write 54 = .ok (.aload_n 0, 1) := by decide +kernel
theorem dX4_write_55 : decode cX4_write 55 = .ok (.aload_n 2, 1) := by decide +kernel
theorem dX4_write_56 : decode cX4_write 56 = .ok (.getfield 33, 3) := by decide +kernel
theorem dX4_write_59 : decode cX4_write 59 = .ok (.iload_n 3, 1) := by decide +kernel
theorem dX4_write_60 : decode cX4_write 60 = .ok (.iconst 4, 1) := by decide +kernel
theorem dX4_write_61 : decode cX4_write 61 = .ok (.imul, 1) := by decide +kernel
theorem dX4_write_62 : decode cX4_write 62 = .ok (.iload 4, 2) := by decide +kernel
theorem dX4_write_64 : decode cX4_write 64 = .ok (.iadd, 1) := by decide +kernel
theorem dX4_write_65 : decode cX4_write 65 = .ok (.iaload, 1) := by decide +kernel
theorem dX4_write_66 : decode cX4_write 66 = .ok (.invokevirtual 24, 3) := by decide +kernel
theorem dX4_write_69 : decode cX4_write 69 = .ok (.aload_n 0, 1) := by decide +kernel
theorem dX4_write_70 : decode cX4_write 70 = .ok (.aload_n 2, 1) := by decide +kernel
theorem dX4_write_71 : decode cX4_write 71 = .ok (.getfield 36, 3) := by decide +kernel
theorem dX4_write_74 : decode cX4_write 74 = .ok (.iload_n 3, 1) := by decide +kernel
theorem dX4_write_75 : decode cX4_write 75 = .ok (.iconst 4, 1) := by decide +kernel
theorem dX4_write_76 : decode cX4_write 76 = .ok (.imul, 1) := by decide +kernel
theorem dX4_write_77 : decode cX4_write 77 = .ok (.iload 4, 2) := by decide +kernel
theorem dX4_write_79 : decode cX4_write 79 = .ok (.iadd, 1) := by decide +kernel
theorem dX4_write_80 : decode cX4_write 80 = .ok (.iaload, 1) := by decide +kernel
theorem dX4_write_81 : decode cX4_write 81 = .ok (.invokevirtual 24, 3) := by decide +kernel
theorem dX4_write_84 : decode cX4_write 84 = .ok (.iinc 4 1, 3) := by decide +kernel
theorem dX4_write_87 : decode cX4_write 87 = .ok (.goto (-44), 3) := by decide +kernel
theorem dX4_write_90 : decode cX4_write 90 = .ok (.iinc 3 1, 3) := by decide +kernel
theorem dX4_write_93 : decode cX4_write 93 = .ok (.goto (-63), 3) := by decide +kernel
theorem dX4_write_96 : decode cX4_write 96 = .ok (.iconst 0, 1) := by decide +kernel
theorem dX4_write_97 : decode cX4_write 97 = .ok (.istore_n 3, 1) := by decide +kernel
theorem dX4_write_98 : decode cX4_write 98 = .ok (.iload_n 3, 1) := by decide +kernel
theorem dX4_write_99 : decode cX4_write 99 = .ok (.aload_n 1, 1) := by decide +kernel
theorem dX4_write_100 : decode cX4_write 100 = .ok (.getfield 28, 3) := by decide +kernel
theorem dX4_write_103 : decode cX4_write 103 = .ok (.iconst 2, 1) := by decide +kernel
theorem dX4_write_104 : decode cX4_write 104 = .ok (.iaload, 1) := by decide +kernel
theorem dX4_write_105 : decode cX4_write 105 = .ok (.if_icmp .ge 54, 3) := by decide +kernel
theorem dX4_write_108 : decode cX4_write 108 = .ok (.aload_n 0, 1) := by decide +kernel
theorem dX4_write_109 : decode cX4_write 109 = .ok (.aload_n 2, 1) := by decide +kernel
theorem dX4_write_110 : decode cX4_write 110 = .ok (.getfield 39, 3) := by decide +kernel
theorem dX4_write_113 : decode cX4_write 113 = .ok (.iload_n 3, 1) := by decide +kernel
theorem dX4_write_114 : decode cX4_write 114 = .ok (.iaload, 1) := by decide +kernel
theorem dX4_write_115 : decode cX4_write 115 = .ok (.invokevirtual 24, 3) := by decide +kernel
theorem dX4_write_118 : decode cX4_write 118 = .ok (.iconst 0, 1) := by decide +kernel
theorem dX4_write_119 : decode cX4_write 119 = .ok (.istore 4, 2) := by decide +kernel
theorem dX4_write_121 : decode cX4_write 121 = .ok (.iload 4, 2) := by decide +kernel
theorem dX4_write_123 : decode cX4_write 123 = .ok (.aload_n 1, 1) := by decide +kernel
theorem dX4_write_124 : decode cX4_write 124 = .ok (.getfield 28, 3) := by decide +kernel
theorem dX4_write_127 : decode cX4_write 127 = .ok (.iconst 0, 1) := by decide +kernel
theorem dX4_write_128 : decode cX4_write 128 = .ok (.iaload, 1) := by decide +kernel
theorem dX4_write_129 : decode cX4_write 129 = .ok (.if_icmp .ge 24, 3) := by decide +kernel
theorem dX4_write_132 : decode cX4_write 132 = .ok (.aload_n 0, 1) := by decide +kernel
theorem dX4_write_133 : decode cX4_write 133 = .ok (.aload_n 2, 1) := by decide +kernel
theorem dX4_write_134 : decode cX4_write 134 = .ok (.getfield 42, 3) := by decide +kernel
theorem dX4_write_137 : decode cX4_write 137 = .ok (.iload_n 3, 1) := by decide +kernel
theorem dX4_write_138 : decode cX4_write 138 = .ok (.iconst 4, 1) := by decide +kernel
theorem dX4_write_139 : decode cX4_write 139 = .ok (.imul, 1) := by decide +kernel
theorem dX4_write_140 : decode cX4_write 140 = .ok (.iload 4, 2) := by decide +kernel
theorem dX4_write_142 : decode cX4_write 142 = .ok (.iadd, 1) := by decide +kernel
theorem dX4_write_143 : decode cX4_write 143 = .ok (.iaload, 1) := by decide +kernel
theorem dX4_write_144 : decode cX4_write 144 = .ok (.invokevirtual 24, 3) := by decide +kernel
theorem dX4_write_147 : decode cX4_write 147 = .ok (.iinc 4 1, 3) := by decide +kernel
theorem dX4_write_150 : decode cX4_write 150 = .ok (.goto (-29), 3) := by decide +kernel
theorem dX4_write_153 : decode cX4_write 153 = .ok (.iinc 3 1, 3) := by decide +kernel
theorem dX4_write_156 : decode cX4_write 156 = .ok (.goto (-58), 3) := by decide +kernel
theorem dX4_write_159 : decode cX4_write 159 = .ok (.aload_n 0, 1) := by decide +kernel
theorem dX4_write_160 : decode cX4_write 160 = .ok (.aload_n 0, 1) := by decide +kernel
theorem dX4_write_161 : decode cX4_write 161 = .ok (.getfield 9, 3) := by decide +kernel
theorem dX4_write_164 : decode cX4_write 164 = .ok (.aload_n 0, 1) := by decide +kernel
theorem dX4_write_165 : decode cX4_write 165 = .ok (.getfield 15, 3) := by decide +kernel
theorem dX4_write_168 : decode cX4_write 168 = .ok (.invokestatic 45, 3) := by decide +kernel
theorem dX4_write_171 : decode cX4_write 171 = .ok (.invokevirtual 24, 3) := by decide +kernel
theorem dX4_write_174 : decode cX4_write 174 = .ok (.return_, 1) := by decide +kernel
theorem dX4_put_0 : decode cX4_put 0 = .ok (.aload_n 0, 1) := by decide +kernel
theorem dX4_put_1 : decode cX4_put 1 = .ok (.getfield 15, 3) := by decide +kernel
theorem dX4_put_4 : decode cX4_put 4 = .ok (.aload_n 0, 1) := by decide +kernel
theorem dX4_put_5 : decode cX4_put 5 = .ok (.getfield 9, 3) := by decide +kernel
theorem dX4_put_8 : decode cX4_put 8 = .ok (.arraylength, 1) := by decide +kernel
theorem dX4_put_9 : decode cX4_put 9 = .ok (.if_icmp .ge 23, 3) := by decide +kernel
theorem dX4_put_12 : decode cX4_put 12 = .ok (.aload_n 0, 1) := by decide +kernel
theorem dX4_put_13 : decode cX4_put 13 = .ok (.getfield 9, 3) := by decide +kernel
theorem dX4_put_16 : decode cX4_put 16 = .ok (.aload_n 0, 1) := by decide +kernel
theorem dX4_put_17 : decode cX4_put 17 = .ok (.getfield 15, 3) := by decide +kernel
theorem dX4_put_20 : decode cX4_put 20 = .ok (.iload_n 1, 1) := by decide +kernel
theorem dX4_put_21 : decode cX4_put 21 = .ok (.iastore, 1) := by decide +kernel
theorem dX4_put_22 : decode cX4_put 22 = .ok (.aload_n 0, 1) := by decide +kernel
theorem dX4_put_23 : decode cX4_put 23 = .ok (.dup, 1) := by decide +kernel
theorem dX4_put_24 : decode cX4_put 24 = .ok (.getfield 15, 3) := by decide +kernel
theorem dX4_put_27 : decode cX4_put 27 = .ok (.iconst 1, 1) := by decide +kernel
theorem dX4_put_28 : decode cX4_put 28 = .ok (.iadd, 1) := by decide +kernel
theorem dX4_put_29 : decode cX4_put 29 = .ok (.putfield 15, 3) := by decide +kernel
theorem dX4_put_32 : decode cX4_put 32 = .ok (.return_, 1) := by decide +kernel
theorem dX4_check_0 : decode cX4_check 0 = .ok (.sipush 193, 3) := by decide +kernel
theorem dX4_check_3 : decode cX4_check 3 = .ok (.istore_n 2, 1) := by decide +kernel
theorem dX4_check_4 : decode cX4_check 4 = .ok (.iconst 0, 1) := by decide +kernel
theorem dX4_check_5 : decode cX4_check 5 = .ok (.istore_n 3, 1) := by decide +kernel
theorem dX4_check_6 : decode cX4_check 6 = .ok (.iload_n 3, 1) := by decide +kernel
theorem dX4_check_7 : decode cX4_check 7 = .ok (.iload_n 1, 1) := by decide +kernel
theorem dX4_check_8 : decode cX4_check 8 = .ok (.if_icmp .ge 27, 3) := by decide +kernel
theorem dX4_check_11 : decode cX4_check 11 = .ok (.iload_n 3, 1) := by decide +kernel
theorem dX4_check_12 : decode cX4_check 12 = .ok (.aload_n 0, 1) := by decide +kernel
theorem dX4_check_13 : decode cX4_check 13 = .ok (.arraylength, 1) := by decide +kernel
theorem dX4_check_14 : decode cX4_check 14 = .ok (.if_icmp .ge 21, 3) := by decide +kernel
theorem dX4_check_17 : decode cX4_check 17 = .ok (.iconst 3, 1) := by decide +kernel
theorem dX4_check_18 : decode cX4_check 18 = .ok (.iload_n 2, 1) := by decide +kernel
theorem dX4_check_19 : decode cX4_check 19 = .ok (.imul, 1) := by decide +kernel
theorem dX4_check_20 : decode cX4_check 20 = .ok (.aload_n 0, 1) := by decide +kernel
theorem dX4_check_21 : decode cX4_check 21 = .ok (.iload_n 3, 1) := by decide +kernel
theorem dX4_check_22 : decode cX4_check 22 = .ok (.iaload, 1) := by decide +kernel
theorem dX4_check_23 : decode cX4_check 23 = .ok (.iadd, 1) := by decide +kernel
theorem dX4_check_24 : decode cX4_check 24 = .ok (.sipush 251, 3) := by decide +kernel
theorem dX4_check_27 : decode cX4_check 27 = .ok (.irem, 1) := by decide +kernel
theorem dX4_check_28 : decode cX4_check 28 = .ok (.istore_n 2, 1) := by decide +kernel
theorem dX4_check_29 : decode cX4_check 29 = .ok (.iinc 3 1, 3) := by decide +kernel
theorem dX4_check_32 : decode cX4_check 32 = .ok (.goto (-26), 3) := by decide +kernel
theorem dX4_check_35 : decode cX4_check 35 = .ok (.iload_n 2, 1) := by decide +kernel
theorem dX4_check_36 : decode cX4_check 36 = .ok (.ireturn, 1) := by decide +kernel
theorem dX4_isOne_0 : decode cX4_isOne 0 = .ok (.aload_n 2, 1) := by decide +kernel
theorem dX4_isOne_1 : decode cX4_isOne 1 = .ok (.getfield 28, 3) := by decide +kernel
theorem dX4_isOne_4 : decode cX4_isOne 4 = .ok (.iconst 0, 1) := by decide +kernel
theorem dX4_isOne_5 : decode cX4_isOne 5 = .ok (.iaload, 1) := by decide +kernel
theorem dX4_isOne_6 : decode cX4_isOne 6 = .ok (.istore_n 3, 1) := by decide +kernel
theorem dX4_isOne_7 : decode cX4_isOne 7 = .ok (.iconst 2, 1) := by decide +kernel
theorem dX4_isOne_8 : decode cX4_isOne 8 = .ok (.iload_n 3, 1) := by decide +kernel
theorem dX4_isOne_9 : decode cX4_isOne 9 = .ok (.imul, 1) := by decide +kernel
theorem dX4_isOne_10 : decode cX4_isOne 10 = .ok (.aload_n 2, 1) := by decide +kernel
theorem dX4_isOne_11 : decode cX4_isOne 11 = .ok (.getfield 28, 3) := by decide +kernel
theorem dX4_isOne_14 : decode cX4_isOne 14 = .ok (.iconst 1, 1) := by decide +kernel
theorem dX4_isOne_15 : decode cX4_isOne 15 = .ok (.iaload, 1) := by decide +kernel
theorem dX4_isOne_16 : decode cX4_isOne 16 = .ok (.imul, 1) := by decide +kernel
theorem dX4_isOne_17 : decode cX4_isOne 17 = .ok (.istore 4, 2) := by decide +kernel
theorem dX4_isOne_19 : decode cX4_isOne 19 = .ok (.iconst 1, 1) := by decide +kernel
theorem dX4_isOne_20 : decode cX4_isOne 20 = .ok (.iload_n 3, 1) := by decide +kernel
theorem dX4_isOne_21 : decode cX4_isOne 21 = .ok (.iadd, 1) := by decide +kernel
theorem dX4_isOne_22 : decode cX4_isOne 22 = .ok (.aload_n 2, 1) := by decide +kernel
theorem dX4_isOne_23 : decode cX4_isOne 23 = .ok (.getfield 28, 3) := by decide +kernel
theorem dX4_isOne_26 : decode cX4_isOne 26 = .ok (.iconst 2, 1) := by decide +kernel
theorem dX4_isOne_27 : decode cX4_isOne 27 = .ok (.iaload, 1) := by decide +kernel
theorem dX4_isOne_28 : decode cX4_isOne 28 = .ok (.imul, 1) := by decide +kernel
theorem dX4_isOne_29 : decode cX4_isOne 29 = .ok (.istore 5, 2) := by decide +kernel
theorem dX4_isOne_31 : decode cX4_isOne 31 = .ok (.iload_n 1, 1) := by decide +kernel
theorem dX4_isOne_32 : decode cX4_isOne 32 = .ok (.iconst 3, 1) := by decide +kernel
theorem dX4_isOne_33 : decode cX4_isOne 33 = .ok (.iload 4, 2) := by decide +kernel
theorem dX4_isOne_35 : decode cX4_isOne 35 = .ok (.iadd, 1) := by decide +kernel
theorem dX4_isOne_36 : decode cX4_isOne 36 = .ok (.iload 5, 2) := by decide +kernel
theorem dX4_isOne_38 : decode cX4_isOne 38 = .ok (.iadd, 1) := by decide +kernel
theorem dX4_isOne_39 : decode cX4_isOne 39 = .ok (.if_icmp .ne 41, 3) := by decide +kernel
theorem dX4_isOne_42 : decode cX4_isOne 42 = .ok (.iload_n 1, 1) := by decide +kernel
theorem dX4_isOne_43 : decode cX4_isOne 43 = .ok (.aload_n 0, 1) := by decide +kernel
theorem dX4_isOne_44 : decode cX4_isOne 44 = .ok (.arraylength, 1) := by decide +kernel
theorem dX4_isOne_45 : decode cX4_isOne 45 = .ok (.if_icmp .gt 35, 3) := by decide +kernel
theorem dX4_isOne_48 : decode cX4_isOne 48 = .ok (.sipush 256, 3) := by decide +kernel
theorem dX4_isOne_51 : decode cX4_isOne 51 = .ok (.aload_n 0, 1) := by decide +kernel
theorem dX4_isOne_52 : decode cX4_isOne 52 = .ok (.iconst 0, 1) := by decide +kernel
theorem dX4_isOne_53 : decode cX4_isOne 53 = .ok (.iaload, 1) := by decide +kernel
theorem dX4_isOne_54 : decode cX4_isOne 54 = .ok (.imul, 1) := by decide +kernel
theorem dX4_isOne_55 : decode cX4_isOne 55 = .ok (.aload_n 0, 1) := by decide +kernel
theorem dX4_isOne_56 : decode cX4_isOne 56 = .ok (.iconst 1, 1) := by decide +kernel
theorem dX4_isOne_57 : decode cX4_isOne 57 = .ok (.iaload, 1) := by decide +kernel
theorem dX4_isOne_58 : decode cX4_isOne 58 = .ok (.iadd, 1) := by decide +kernel
theorem dX4_isOne_59 : decode cX4_isOne 59 = .ok (.sipush 9999, 3) := by decide +kernel
theorem dX4_isOne_62 : decode cX4_isOne 62 = .ok (.if_icmp .gt 18, 3) := by decide +kernel
theorem dX4_isOne_65 : decode cX4_isOne 65 = .ok (.aload_n 0, 1) := by decide +kernel
theorem dX4_isOne_66 : decode cX4_isOne 66 = .ok (.iload_n 1, 1) := by decide +kernel
theorem dX4_isOne_67 : decode cX4_isOne 67 = .ok (.iconst 1, 1) := by decide +kernel
theorem dX4_isOne_68 : decode cX4_isOne 68 = .ok (.isub, 1) := by decide +kernel
theorem dX4_isOne_69 : decode cX4_isOne 69 = .ok (.iaload, 1) := by decide +kernel
theorem dX4_isOne_70 : decode cX4_isOne 70 = .ok (.aload_n 0, 1) := by decide +kernel
theorem dX4_isOne_71 : decode cX4_isOne 71 = .ok (.iload_n 1, 1) := by decide +kernel
theorem dX4_isOne_72 : decode cX4_isOne 72 = .ok (.iconst 1, 1) := by decide +kernel
theorem dX4_isOne_73 : decode cX4_isOne 73 = .ok (.isub, 1) := by decide +kernel
theorem dX4_isOne_74 : decode cX4_isOne 74 = .ok (.invokestatic 45, 3) := by decide +kernel
theorem dX4_isOne_77 : decode cX4_isOne 77 = .ok (.if_icmp .eq 5, 3) := by decide +kernel
theorem dX4_isOne_80 : decode cX4_isOne 80 = .ok (.iconst 0, 1) := by decide +kernel
theorem dX4_isOne_81 : decode cX4_isOne 81 = .ok (.ireturn, 1) := by decide +kernel
theorem dX4_isOne_82 : decode cX4_isOne 82 = .ok (.iconst 2, 1) := by decide +kernel
theorem dX4_isOne_83 : decode cX4_isOne 83 = .ok (.istore 6, 2) := by decide +kernel
theorem dX4_isOne_85 : decode cX4_isOne 85 = .ok (.iload 6, 2) := by decide +kernel
theorem dX4_isOne_87 : decode cX4_isOne 87 = .ok (.iconst 2, 1) := by decide +kernel
theorem dX4_isOne_88 : decode cX4_isOne 88 = .ok (.iload 4, 2) := by decide +kernel
theorem dX4_isOne_90 : decode cX4_isOne 90 = .ok (.iadd, 1) := by decide +kernel
theorem dX4_isOne_91 : decode cX4_isOne 91 = .ok (.if_icmp .ge 20, 3) := by decide +kernel
theorem dX4_isOne_94 : decode cX4_isOne 94 = .ok (.aload_n 0, 1) := by decide +kernel
theorem dX4_isOne_95 : decode cX4_isOne 95 = .ok (.iload 6, 2) := by decide +kernel
theorem dX4_isOne_97 : decode cX4_isOne 97 = .ok (.iaload, 1) := by decide +kernel
theorem dX4_isOne_98 : decode cX4_isOne 98 = .ok (.bipush 99, 2) := by decide +kernel
theorem dX4_isOne_100 : decode cX4_isOne 100 = .ok (.if_icmp .le 5, 3) := by decide +kernel
theorem dX4_isOne_103 : decode cX4_isOne 103 = .ok (.iconst 0, 1) := by decide +kernel
theorem dX4_isOne_104 : decode cX4_isOne 104 = .ok (.ireturn, 1) := by decide +kernel
theorem dX4_isOne_105 : decode cX4_isOne 105 = .ok (.iinc 6 1, 3) := by decide +kernel
theorem dX4_isOne_108 : decode cX4_isOne 108 = .ok (.goto (-23), 3) := by decide +kernel
theorem dX4_isOne_111 : decode cX4_isOne 111 = .ok (.iconst 0, 1) := by decide +kernel
theorem dX4_isOne_112 : decode cX4_isOne 112 = .ok (.istore 6, 2) := by decide +kernel
theorem dX4_isOne_114 : decode cX4_isOne 114 = .ok (.iload 6, 2) := by decide +kernel
theorem dX4_isOne_116 : decode cX4_isOne 116 = .ok (.iload 5, 2) := by decide +kernel
theorem dX4_isOne_118 : decode cX4_isOne 118 = .ok (.if_icmp .ge 59, 3) := by decide +kernel
theorem dX4_isOne_121 : decode cX4_isOne 121 = .ok (.aload_n 0, 1) := by decide +kernel
theorem dX4_isOne_122 : decode cX4_isOne 122 = .ok (.iconst 2, 1) := by decide +kernel
theorem dX4_isOne_123 : decode cX4_isOne 123 = .ok (.iload 4, 2) := by decide +kernel
theorem dX4_isOne_125 : decode cX4_isOne 125 = .ok (.iadd, 1) := by decide +kernel
theorem dX4_isOne_126 : decode cX4_isOne 126 = .ok (.iload 6, 2) := by decide +kernel
theorem dX4_isOne_128 : decode cX4_isOne 128 = .ok (.iadd, 1) := by decide +kernel
theorem dX4_isOne_129 : decode cX4_isOne 129 = .ok (.iaload, 1) := by decide +kernel
theorem dX4_isOne_130 : decode cX4_isOne 130 = .ok (.istore 7, 2) := by decide +kernel
theorem dX4_isOne_132 : decode cX4_isOne 132 = .ok (.iload 6, 2) := by decide +kernel
theorem dX4_isOne_134 : decode cX4_isOne 134 = .ok (.iconst 1, 1) := by decide +kernel
theorem dX4_isOne_135 : decode cX4_isOne 135 = .ok (.iload_n 3, 1) := by decide +kernel
theorem dX4_isOne_136 : decode cX4_isOne 136 = .ok (.iadd, 1) := by decide +kernel
theorem dX4_isOne_137 : decode cX4_isOne 137 = .ok (.irem, 1) := by decide +kernel
theorem dX4_isOne_138 : decode cX4_isOne 138 = .ok (.ifCond .ne 12, 3) := by decide +kernel
theorem dX4_isOne_141 : decode cX4_isOne 141 = .ok (.aload_n 2, 1) := by decide +kernel
theorem dX4_isOne_142 : decode cX4_isOne 142 = .ok (.iload 7, 2) := by decide +kernel
theorem dX4_isOne_144 : decode cX4_isOne 144 = .ok (.invokevirtual 49, 3) := by decide +kernel
theorem dX4_isOne_147 : decode cX4_isOne 147 = .ok (.goto 15, 3) := by decide +kernel
theorem dX4_isOne_150 : decode cX4_isOne 150 = .ok (.iload 7, 2) := by decide +kernel
theorem dX4_isOne_152 : decode cX4_isOne 152 = .ok (.bipush 99, 2) := by decide +kernel
theorem dX4_isOne_154 : decode cX4_isOne 154 = .ok (.if_icmp .gt 7, 3) := by decide +kernel
theorem dX4_isOne_157 : decode cX4_isOne 157 = .ok (.iconst 1, 1) := by decide +kernel
theorem dX4_isOne_158 : decode cX4_isOne 158 = .ok (.goto 4, 3) := by decide +kernel
theorem dX4_isOne_161 : decode cX4_isOne 161 = .ok (.iconst 0, 1) := by decide +kernel
theorem dX4_isOne_162 : decode cX4_isOne 162 = .ok (.istore 8, 2) := by decide +kernel
theorem dX4_isOne_164 : decode cX4_isOne 164 = .ok (.iload 8, 2) := by decide +kernel
theorem dX4_isOne_166 : decode cX4_isOne 166 = .ok (.ifCond .ne 5, 3) := by decide +kernel
theorem dX4_isOne_169 : decode cX4_isOne 169 = .ok (.iconst 0, 1) := by decide +kernel
theorem dX4_isOne_170 : decode cX4_isOne 170 = .ok (.ireturn, 1) := by decide +kernel
theorem dX4_isOne_171 : decode cX4_isOne 171 = .ok (.iinc 6 1, 3) := by decide +kernel
theorem dX4_isOne_174 : decode cX4_isOne 174 = .ok (.goto (-60), 3) := by decide +kernel
theorem dX4_isOne_177 : decode cX4_isOne 177 = .ok (.iconst 1, 1) := by decide +kernel
theorem dX4_isOne_178 : decode cX4_isOne 178 = .ok (.ireturn, 1) := by decide +kernel
theorem dX4_read_0 : decode cX4_read 0 = .ok (.aload_n 2, 1) := by decide +kernel
theorem dX4_read_1 : decode cX4_read 1 = .ok (.sipush 256, 3) := by decide +kernel
theorem dX4_read_4 : decode cX4_read 4 = .ok (.aload_n 0, 1) := by decide +kernel
theorem dX4_read_5 : decode cX4_read 5 = .ok (.iconst 0, 1) := by decide +kernel
theorem dX4_read_6 : decode cX4_read 6 = .ok (.iaload, 1) := by decide +kernel
theorem dX4_read_7 : decode cX4_read 7 = .ok (.imul, 1) := by decide +kernel
theorem dX4_read_8 : decode cX4_read 8 = .ok (.aload_n 0, 1) := by decide +kernel
theorem dX4_read_9 : decode cX4_read 9 = .ok (.iconst 1, 1) := by decide +kernel
theorem dX4_read_10 : decode cX4_read 10 = .ok (.iaload, 1) := by decide +kernel
theorem dX4_read_11 : decode cX4_read 11 = .ok (.iadd, 1) := by decide +kernel
theorem dX4_read_12 : decode cX4_read 12 = .ok (.putfield 19, 3) := by decide +kernel
theorem dX4_read_15 : decode cX4_read 15 = .ok (.iconst 2, 1) := by decide +kernel
theorem dX4_read_16 : decode cX4_read 16 = .ok (.istore_n 3, 1) := by decide +kernel
theorem dX4_read_17 : decode cX4_read 17 = .ok (.iconst 0, 1) := by decide +kernel
theorem dX4_read_18 : decode cX4_read 18 = .ok (.istore 4, 2) := by decide +kernel
theorem dX4_read_20 : decode cX4_read 20 = .ok (.iload 4, 2) := by decide +kernel
theorem dX4_read_22 : decode cX4_read 22 = .ok (.aload_n 1, 1) := by decide +kernel
theorem dX4_read_23 : decode cX4_read 23 = .ok (.getfield 28, 3) := by decide +kernel
theorem dX4_read_26 : decode cX4_read 26 = .ok (.iconst 1, 1) := by decide +kernel
theorem dX4_read_27 : decode cX4_read 27 = .ok (.iaload, 1) := by decide +kernel
theorem dX4_read_28 : decode cX4_read 28 = .ok (.if_icmp .ge 64, 3) := by decide +kernel
theorem dX4_read_31 : decode cX4_read 31 = .ok (.iconst 0, 1) := by decide +kernel
theorem dX4_read_32 : decode cX4_read 32 = .ok (.istore 5, 2) := by decide +kernel
theorem dX4_read_34 : decode cX4_read 34 = .ok (.iload 5, 2) := by decide +kernel
theorem dX4_read_36 : decode cX4_read 36 = .ok (.aload_n 1, 1) := by decide +kernel
theorem dX4_read_37 : decode cX4_read 37 = .ok (.getfield 28, 3) := by decide +kernel
theorem dX4_read_40 : decode cX4_read 40 = .ok (.iconst 0, 1) := by decide +kernel
theorem dX4_read_41 : decode cX4_read 41 = .ok (.iaload, 1) := by decide +kernel
theorem dX4_read_42 : decode cX4_read 42 = .ok (.if_icmp .ge 44, 3) := by decide +kernel
theorem dX4_read_45 : decode cX4_read 45 = .ok (.aload_n 2, 1) := by decide +kernel
theorem dX4_read_46 : decode cX4_read 46 = .ok (.getfield 33, 3) := by decide +kernel
theorem dX4_read_49 : decode cX4_read 49 = .ok (.iload 4, 2) := by decide +kernel
theorem dX4_read_51 : decode cX4_read 51 = .ok (.iconst 4, 1) := by decide +kernel
theorem dX4_read_52 : decode cX4_read 52 = .ok (.imul, 1) := by decide +kernel
theorem dX4_read_53 : decode cX4_read 53 = .ok (.iload 5, 2) := by decide +kernel
theorem dX4_read_55 : decode cX4_read 55 = .ok (.iadd, 1) := by decide +kernel
theorem dX4_read_56 : decode cX4_read 56 = .ok (.aload_n 0, 1) := by decide +kernel
theorem dX4_read_57 : decode cX4_read 57 = .ok (.iload_n 3, 1) := by decide +kernel
theorem dX4_read_58 : decode cX4_read 58 = .ok (.iaload, 1) := by decide +kernel
theorem dX4_read_59 : decode cX4_read 59 = .ok (.iastore, 1) := by decide +kernel
theorem dX4_read_60 : decode cX4_read 60 = .ok (.aload_n 2, 1) := by decide +kernel
theorem dX4_read_61 : decode cX4_read 61 = .ok (.getfield 36, 3) := by decide +kernel
theorem dX4_read_64 : decode cX4_read 64 = .ok (.iload 4, 2) := by decide +kernel
theorem dX4_read_66 : decode cX4_read 66 = .ok (.iconst 4, 1) := by decide +kernel
theorem dX4_read_67 : decode cX4_read 67 = .ok (.imul, 1) := by decide +kernel
theorem dX4_read_68 : decode cX4_read 68 = .ok (.iload 5, 2) := by decide +kernel
theorem dX4_read_70 : decode cX4_read 70 = .ok (.iadd, 1) := by decide +kernel
theorem dX4_read_71 : decode cX4_read 71 = .ok (.aload_n 0, 1) := by decide +kernel
theorem dX4_read_72 : decode cX4_read 72 = .ok (.iload_n 3, 1) := by decide +kernel
theorem dX4_read_73 : decode cX4_read 73 = .ok (.iconst 1, 1) := by decide +kernel
theorem dX4_read_74 : decode cX4_read 74 = .ok (.iadd, 1) := by decide +kernel
theorem dX4_read_75 : decode cX4_read 75 = .ok (.iaload, 1) := by decide +kernel
theorem dX4_read_76 : decode cX4_read 76 = .ok (.iastore, 1) := by decide +kernel
theorem dX4_read_77 : decode cX4_read 77 = .ok (.iinc 3 2, 3) := by decide +kernel
theorem dX4_read_80 : decode cX4_read 80 = .ok (.iinc 5 1, 3) := by decide +kernel
theorem dX4_read_83 : decode cX4_read 83 = .ok (.goto (-49), 3) := by decide +kernel
theorem dX4_read_86 : decode cX4_read 86 = .ok (.iinc 4 1, 3) := by decide +kernel
theorem dX4_read_89 : decode cX4_read 89 = .ok (.goto (-69), 3) := by decide +kernel
theorem dX4_read_92 : decode cX4_read 92 = .ok (.iconst 0, 1) := by decide +kernel
theorem dX4_read_93 : decode cX4_read 93 = .ok (.istore 4, 2) := by decide +kernel
theorem dX4_read_95 : decode cX4_read 95 = .ok (.iload 4, 2) := by decide +kernel
theorem dX4_read_97 : decode cX4_read 97 = .ok (.aload_n 1, 1) := by decide +kernel
theorem dX4_read_98 : decode cX4_read 98 = .ok (.getfield 28, 3) := by decide +kernel
theorem dX4_read_101 : decode cX4_read 101 = .ok (.iconst 2, 1) := by decide +kernel
theorem dX4_read_102 : decode cX4_read 102 = .ok (.iaload, 1) := by decide +kernel
theorem dX4_read_103 : decode cX4_read 103 = .ok (.if_icmp .ge 60, 3) := by decide +kernel
theorem dX4_read_106 : decode cX4_read 106 = .ok (.aload_n 2, 1) := by decide +kernel
theorem dX4_read_107 : decode cX4_read 107 = .ok (.getfield 39, 3) := by decide +kernel
theorem dX4_read_110 : decode cX4_read 110 = .ok (.iload 4, 2) := by decide +kernel
theorem dX4_read_112 : decode cX4_read 112 = .ok (.aload_n 0, 1) := by decide +kernel
theorem dX4_read_113 : decode cX4_read 113 = .ok (.iload_n 3, 1) := by decide +kernel
theorem dX4_read_114 : decode cX4_read 114 = .ok (.iaload, 1) := by decide +kernel
theorem dX4_read_115 : decode cX4_read 115 = .ok (.iastore, 1) := by decide +kernel
theorem dX4_read_116 : decode cX4_read 116 = .ok (.iinc 3 1, 3) := by decide +kernel
theorem dX4_read_119 : decode cX4_read 119 = .ok (.iconst 0, 1) := by decide +kernel
theorem dX4_read_120 : decode cX4_read 120 = .ok (.istore 5, 2) := by decide +kernel
theorem dX4_read_122 : decode cX4_read 122 = .ok (.iload 5, 2) := by decide +kernel
theorem dX4_read_124 : decode cX4_read 124 = .ok (.aload_n 1, 1) := by decide +kernel
theorem dX4_read_125 : decode cX4_read 125 = .ok (.getfield 28, 3) := by decide +kernel
theorem dX4_read_128 : decode cX4_read 128 = .ok (.iconst 0, 1) := by decide +kernel
theorem dX4_read_129 : decode cX4_read 129 = .ok (.iaload, 1) := by decide +kernel
theorem dX4_read_130 : decode cX4_read 130 = .ok (.if_icmp .ge 27, 3) := by decide +kernel
theorem dX4_read_133 : decode cX4_read 133 = .ok (.aload_n 2, 1) := by decide +kernel
theorem dX4_read_134 : decode cX4_read 134 = .ok (.getfield 42, 3) := by decide +kernel
theorem dX4_read_137 : decode cX4_read 137 = .ok (.iload 4, 2) := by decide +kernel
theorem dX4_read_139 : decode cX4_read 139 = .ok (.iconst 4, 1) := by decide +kernel
theorem dX4_read_140 : decode cX4_read 140 = .ok (.imul, 1) := by decide +kernel
theorem dX4_read_141 : decode cX4_read 141 = .ok (.iload 5, 2) := by decide +kernel
theorem dX4_read_143 : decode cX4_read 143 = .ok (.iadd, 1) := by decide +kernel
theorem dX4_read_144 : decode cX4_read 144 = .ok (.aload_n 0, 1) := by decide +kernel
theorem dX4_read_145 : decode cX4_read 145 = .ok (.iload_n 3, 1) := by decide +kernel
theorem dX4_read_146 : decode cX4_read 146 = .ok (.iaload, 1) := by decide +kernel
theorem dX4_read_147 : decode cX4_read 147 = .ok (.iastore, 1) := by decide +kernel
theorem dX4_read_148 : decode cX4_read 148 = .ok (.iinc 3 1, 3) := by decide +kernel
theorem dX4_read_151 : decode cX4_read 151 = .ok (.iinc 5 1, 3) := by decide +kernel
theorem dX4_read_154 : decode cX4_read 154 = .ok (.goto (-32), 3) := by decide +kernel
theorem dX4_read_157 : decode cX4_read 157 = .ok (.iinc 4 1, 3) := by decide +kernel
theorem dX4_read_160 : decode cX4_read 160 = .ok (.goto (-65), 3) := by decide +kernel
theorem dX4_read_163 : decode cX4_read 163 = .ok (.return_, 1) := by decide +kernel
theorem dX5_init_0 : decode cX5_init 0 = .ok (.aload_n 0, 1) := by decide +kernel
theorem dX5_init_1 : decode cX5_init 1 = .ok (.invokespecial 3, 3) := by decide +kernel
theorem dX5_init_4 : decode cX5_init 4 = .ok (.aload_n 0, 1) := by decide +kernel
theorem dX5_init_5 : decode cX5_init 5 = .ok (.new 9, 3) := by decide +kernel
theorem dX5_init_8 : decode cX5_init 8 = .ok (.dup, 1) := by decide +kernel
theorem dX5_init_9 : decode cX5_init 9 = .ok (.invokespecial 11, 3) := by decide +kernel
theorem dX5_init_12 : decode cX5_init 12 = .ok (.putfield 12, 3) := by decide +kernel
theorem dX5_init_15 : decode cX5_init 15 = .ok (.return_, 1) := by decide +kernel
theorem dX5_goThrough_0 : decode cX5_goThrough 0 = .ok (.iconst 0, 1) := by decide +kernel
theorem dX5_goThrough_1 : decode cX5_goThrough 1 = .ok (.istore 4, 2) := by decide +kernel
theorem dX5_goThrough_3 : decode cX5_goThrough 3 = .ok (.iload 4, 2) := by decide +kernel
theorem dX5_goThrough_5 : decode cX5_goThrough 5 = .ok (.iload_n 3, 1) := by decide +kernel
theorem dX5_goThrough_6 : decode cX5_goThrough 6 = .ok (.if_icmp .ge 15, 3) := by decide +kernel
theorem dX5_goThrough_9 : decode cX5_goThrough 9 = .ok (.aload_n 0, 1) := by decide +kernel
theorem dX5_goThrough_10 : decode cX5_goThrough 10 = .ok (.aload_n 1, 1) := by decide +kernel
theorem dX5_goThrough_11 : decode cX5_goThrough 11 = .ok (.aload_n 2, 1) := by decide +kernel
theorem dX5_goThrough_12 : decode cX5_goThrough 12 = .ok (.invokevirtual 18, 3) := by decide +kernel
theorem dX5_goThrough_15 : decode cX5_goThrough 15 = .ok (.iinc 4 1, 3) := by decide +kernel
theorem dX5_goThrough_18 : decode cX5_goThrough 18 = .ok (.goto (-15), 3) := by decide +kernel
theorem dX5_goThrough_21 : decode cX5_goThrough 21 = .ok (.return_, 1) := by decide +kernel
theorem dX5_hourComes_0 : decode cX5_hourComes 0 = .ok (.aload_n 2, 1) := by decide +kernel
theorem dX5_hourComes_1 : decode cX5_hourComes 1 = .ok (.dup, 1) := by decide +kernel
theorem dX5_hourComes_2 : decode cX5_hourComes 2 = .ok (.getfield 22, 3) := by decide +kernel
theorem dX5_hourComes_5 : decode cX5_hourComes 5 = .ok (.iconst 1, 1) := by decide +kernel
theorem dX5_hourComes_6 : decode cX5_hourComes 6 = .ok (.iadd, 1) := by decide +kernel
theorem dX5_hourComes_7 : decode cX5_hourComes 7 = .ok (.putfield 22, 3) := by decide +kernel
theorem dX5_hourComes_10 : decode cX5_hourComes 10 = .ok (.aload_n 2, 1) := by decide +kernel
theorem dX5_hourComes_11 : decode cX5_hourComes 11 = .ok (.getfield 22, 3) := by decide +kernel
theorem dX5_hourComes_14 : decode cX5_hourComes 14 = .ok (.bipush 24, 2) := by decide +kernel
theorem dX5_hourComes_16 : decode cX5_hourComes 16 = .ok (.irem, 1) := by decide +kernel
theorem dX5_hourComes_17 : decode cX5_hourComes 17 = .ok (.istore_n 3, 1) := by decide +kernel
theorem dX5_hourComes_18 : decode cX5_hourComes 18 = .ok (.aload_n 1, 1) := by decide +kernel
theorem dX5_hourComes_19 : decode cX5_hourComes 19 = .ok (.getfield 28, 3) := by decide +kernel
theorem dX5_hourComes_22 : decode cX5_hourComes 22 = .ok (.iload_n 3, 1) := by decide +kernel
theorem dX5_hourComes_23 : decode cX5_hourComes 23 = .ok (.ishr, 1) := by decide +kernel
theorem dX5_hourComes_24 : decode cX5_hourComes 24 = .ok (.iconst 1, 1) := by decide +kernel
theorem dX5_hourComes_25 : decode cX5_hourComes 25 = .ok (.iand, 1) := by decide +kernel
theorem dX5_hourComes_26 : decode cX5_hourComes 26 = .ok (.ifCond .ne 4, 3) := by decide +kernel
theorem dX5_hourComes_29 : decode cX5_hourComes 29 = .ok (.return_, 1) := by decide +kernel
theorem dX5_hourComes_30 : decode cX5_hourComes 30 = .ok (.iload_n 3, 1) := by decide +kernel
theorem dX5_hourComes_31 : decode cX5_hourComes 31 = .ok (.aload_n 1, 1) := by decide +kernel
theorem dX5_hourComes_32 : decode cX5_hourComes 32 = .ok (.getfield 33, 3) := by decide +kernel
theorem dX5_hourComes_35 : decode cX5_hourComes 35 = .ok (.if_icmp .ne 30, 3) := by decide +kernel
theorem dX5_hourComes_38 : decode cX5_hourComes 38 = .ok (.iconst 0, 1) := by decide +kernel
theorem dX5_hourComes_39 : decode cX5_hourComes 39 = .ok (.istore 4, 2) := by decide +kernel
theorem dX5_hourComes_41 : decode cX5_hourComes 41 = .ok (.iload 4, 2) := by decide +kernel
theorem dX5_hourComes_43 : decode cX5_hourComes 43 = .ok (.aload_n 1, 1) := by decide +kernel
theorem dX5_hourComes_44 : decode cX5_hourComes 44 = .ok (.getfield 36, 3) := by decide +kernel
theorem dX5_hourComes_47 : decode cX5_hourComes 47 = .ok (.iconst 2, 1) := by decide +kernel
theorem dX5_hourComes_48 : decode cX5_hourComes 48 = .ok (.iaload, 1) := by decide +kernel
theorem dX5_hourComes_49 : decode cX5_hourComes 49 = .ok (.if_icmp .ge 16, 3) := by decide +kernel
theorem dX5_hourComes_52 : decode cX5_hourComes 52 = .ok (.aload_n 1, 1) := by decide +kernel
theorem dX5_hourComes_53 : decode cX5_hourComes 53 = .ok (.aload_n 2, 1) := by decide +kernel
theorem dX5_hourComes_54 : decode cX5_hourComes 54 = .ok (.iload 4, 2) := by decide +kernel
theorem dX5_hourComes_56 : decode cX5_hourComes 56 = .ok (.invokestatic 40, 3) := by decide +kernel
theorem dX5_hourComes_59 : decode cX5_hourComes 59 = .ok (.iinc 4 1, 3) := by decide +kernel
theorem dX5_hourComes_62 : decode cX5_hourComes 62 = .ok (.goto (-21), 3) := by decide +kernel
theorem dX5_hourComes_65 : decode cX5_hourComes 65 = .ok (.iconst 0, 1) := by decide +kernel
theorem dX5_hourComes_66 : decode cX5_hourComes 66 = .ok (.istore 4, 2) := by decide +kernel
theorem dX5_hourComes_68 : decode cX5_hourComes 68 = .ok (.iload 4, 2) := by decide +kernel
theorem dX5_hourComes_70 : decode cX5_hourComes 70 = .ok (.aload_n 1, 1) := by decide +kernel
theorem dX5_hourComes_71 : decode cX5_hourComes 71 = .ok (.getfield 36, 3) := by decide +kernel
theorem dX5_hourComes_74 : decode cX5_hourComes 74 = .ok (.iconst 3, 1) := by decide +kernel
theorem dX5_hourComes_75 : decode cX5_hourComes 75 = .ok (.iaload, 1) := by decide +kernel
theorem dX5_hourComes_76 : decode cX5_hourComes 76 = .ok (.if_icmp .ge 28, 3) := by decide +kernel
theorem dX5_hourComes_79 : decode cX5_hourComes 79 = .ok (.aload_n 1, 1) := by decide +kernel
theorem dX5_hourComes_80 : decode cX5_hourComes 80 = .ok (.getfield 44, 3) := by decide +kernel
theorem dX5_hourComes_83 : decode cX5_hourComes 83 = .ok (.iload 4, 2) := by decide +kernel
theorem dX5_hourComes_85 : decode cX5_hourComes 85 = .ok (.iaload, 1) := by decide +kernel
theorem dX5_hourComes_86 : decode cX5_hourComes 86 = .ok (.iload_n 3, 1) := by decide +kernel
theorem dX5_hourComes_87 : decode cX5_hourComes 87 = .ok (.if_icmp .ne 11, 3) := by decide +kernel
theorem dX5_hourComes_90 : decode cX5_hourComes 90 = .ok (.aload_n 0, 1) := by decide +kernel
theorem dX5_hourComes_91 : decode cX5_hourComes 91 = .ok (.aload_n 1, 1) := by decide +kernel
theorem dX5_hourComes_92 : decode cX5_hourComes 92 = .ok (.aload_n 2, 1) := by decide +kernel
theorem dX5_hourComes_93 : decode cX5_hourComes 93 = .ok (.iload 4, 2) := by decide +kernel
theorem dX5_hourComes_95 : decode cX5_hourComes 95 = .ok (.invokevirtual 47, 3) := by decide +kernel
theorem dX5_hourComes_98 : decode cX5_hourComes 98 = .ok (.iinc 4 1, 3) := by decide +kernel
theorem dX5_hourComes_101 : decode cX5_hourComes 101 = .ok (.goto (-33), 3) := by decide +kernel
theorem dX5_hourComes_104 : decode cX5_hourComes 104 = .ok (.iload_n 3, 1) := by decide +kernel
theorem dX5_hourComes_105 : decode cX5_hourComes 105 = .ok (.aload_n 1, 1) := by decide +kernel
theorem dX5_hourComes_106 : decode cX5_hourComes 106 = .ok (.getfield 50, 3) := by decide +kernel
theorem dX5_hourComes_109 : decode cX5_hourComes 109 = .ok (.if_icmp .ne 31, 3) := by decide +kernel
theorem dX5_hourComes_112 : decode cX5_hourComes 112 = .ok (.iconst 0, 1) := by decide +kernel
theorem dX5_hourComes_113 : decode cX5_hourComes 113 = .ok (.istore 4, 2) := by decide +kernel
theorem dX5_hourComes_115 : decode cX5_hourComes 115 = .ok (.iload 4, 2) := by decide +kernel
theorem dX5_hourComes_117 : decode cX5_hourComes 117 = .ok (.aload_n 1, 1) := by decide +kernel
theorem dX5_hourComes_118 : decode cX5_hourComes 118 = .ok (.getfield 36, 3) := by decide +kernel
theorem dX5_hourComes_121 : decode cX5_hourComes 121 = .ok (.iconst 1, 1) := by decide +kernel
theorem dX5_hourComes_122 : decode cX5_hourComes 122 = .ok (.iaload, 1) := by decide +kernel
theorem dX5_hourComes_123 : decode cX5_hourComes 123 = .ok (.if_icmp .ge 17, 3) := by decide +kernel
theorem dX5_hourComes_126 : decode cX5_hourComes 126 = .ok (.aload_n 0, 1) := by decide +kernel
theorem dX5_hourComes_127 : decode cX5_hourComes 127 = .ok (.aload_n 1, 1) := by decide +kernel
theorem dX5_hourComes_128 : decode cX5_hourComes 128 = .ok (.aload_n 2, 1) := by decide +kernel
theorem dX5_hourComes_129 : decode cX5_hourComes 129 = .ok (.iload 4, 2) := by decide +kernel
theorem dX5_hourComes_131 : decode cX5_hourComes 131 = .ok (.invokevirtual 53, 3) := by decide +kernel
theorem dX5_hourComes_134 : decode cX5_hourComes 134 = .ok (.iinc 4 1, 3) := by decide +kernel
theorem dX5_hourComes_137 : decode cX5_hourComes 137 = .ok (.goto (-22), 3) := by decide +kernel
theorem dX5_hourComes_140 : decode cX5_hourComes 140 = .ok (.return_, 1) := by decide +kernel
theorem dX5_bakeLoaf_0 : decode cX5_bakeLoaf 0 = .ok (.aload_n 1, 1) := by decide +kernel
theorem dX5_bakeLoaf_1 : decode cX5_bakeLoaf 1 = .ok (.getfield 56, 3) := by decide +kernel
theorem dX5_bakeLoaf_4 : decode cX5_bakeLoaf 4 = .ok (.iload_n 2, 1) := by decide +kernel
theorem dX5_bakeLoaf_5 : decode cX5_bakeLoaf 5 = .ok (.iaload, 1) := by decide +kernel
theorem dX5_bakeLoaf_6 : decode cX5_bakeLoaf 6 = .ok (.istore_n 3, 1) := by decide +kernel
theorem dX5_bakeLoaf_7 : decode cX5_bakeLoaf 7 = .ok (.iload_n 3, 1) := by decide +kernel
theorem dX5_bakeLoaf_8 : decode cX5_bakeLoaf 8 = .ok (.invokestatic 59, 3) := by decide +kernel
theorem dX5_bakeLoaf_11 : decode cX5_bakeLoaf 11 = .ok (.istore 4, 2) := by decide +kernel
theorem dX5_bakeLoaf_13 : decode cX5_bakeLoaf 13 = .ok (.iload 4, 2) := by decide +kernel
theorem dX5_bakeLoaf_15 : decode cX5_bakeLoaf 15 = .ok (.ifCond .ne 4, 3) := by decide +kernel
theorem dX5_bakeLoaf_18 : decode cX5_bakeLoaf 18 = .ok (.return_, 1) := by decide +kernel
theorem dX5_bakeLoaf_19 : decode cX5_bakeLoaf 19 = .ok (.aload_n 0, 1) := by decide +kernel
theorem dX5_bakeLoaf_20 : decode cX5_bakeLoaf 20 = .ok (.getfield 65, 3) := by decide +kernel
theorem dX5_bakeLoaf_23 : decode cX5_bakeLoaf 23 = .ok (.iload_n 2, 1) := by decide +kernel
theorem dX5_bakeLoaf_24 : decode cX5_bakeLoaf 24 = .ok (.iaload, 1) := by decide +kernel
theorem dX5_bakeLoaf_25 : decode cX5_bakeLoaf 25 = .ok (.istore 5, 2) := by decide +kernel
theorem dX5_bakeLoaf_27 : decode cX5_bakeLoaf 27 = .ok (.iconst 0, 1) := by decide +kernel
theorem dX5_bakeLoaf_28 : decode cX5_bakeLoaf 28 = .ok (.istore 6, 2) := by decide +kernel
theorem dX5_bakeLoaf_30 : decode cX5_bakeLoaf 30 = .ok (.iload 6, 2) := by decide +kernel
theorem dX5_bakeLoaf_32 : decode cX5_bakeLoaf 32 = .ok (.aload_n 0, 1) := by decide +kernel
theorem dX5_bakeLoaf_33 : decode cX5_bakeLoaf 33 = .ok (.getfield 36, 3) := by decide +kernel
theorem dX5_bakeLoaf_36 : decode cX5_bakeLoaf 36 = .ok (.iconst 0, 1) := by decide +kernel
theorem dX5_bakeLoaf_37 : decode cX5_bakeLoaf 37 = .ok (.iaload, 1) := by decide +kernel
theorem dX5_bakeLoaf_38 : decode cX5_bakeLoaf 38 = .ok (.if_icmp .ge 101, 3) := by decide +kernel
theorem dX5_bakeLoaf_41 : decode cX5_bakeLoaf 41 = .ok (.iconst 0, 1) := by decide +kernel
theorem dX5_bakeLoaf_42 : decode cX5_bakeLoaf 42 = .ok (.istore 7, 2) := by decide +kernel
theorem dX5_bakeLoaf_44 : decode cX5_bakeLoaf 44 = .ok (.iconst 0, 1) := by decide +kernel
theorem dX5_bakeLoaf_45 : decode cX5_bakeLoaf 45 = .ok (.istore 8, 2) := by decide +kernel
theorem dX5_bakeLoaf_47 : decode cX5_bakeLoaf 47 = .ok (.iload 8, 2) := by decide +kernel
theorem dX5_bakeLoaf_49 : decode cX5_bakeLoaf 49 = .ok (.aload_n 0, 1) := by decide +kernel
theorem dX5_bakeLoaf_50 : decode cX5_bakeLoaf 50 = .ok (.getfield 36, 3) := by decide +kernel
theorem dX5_bakeLoaf_53 : decode cX5_bakeLoaf 53 = .ok (.iconst 1, 1) := by decide +kernel
theorem dX5_bakeLoaf_54 : decode cX5_bakeLoaf 54 = .ok (.iaload, 1) := by decide +kernel
theorem dX5_bakeLoaf_55 : decode cX5_bakeLoaf 55 = .ok (.if_icmp .ge 35, 3) := by decide +kernel
theorem dX5_bakeLoaf_58 : decode cX5_bakeLoaf 58 = .ok (.iload_n 3, 1) := by decide +kernel
theorem dX5_bakeLoaf_59 : decode cX5_bakeLoaf 59 = .ok (.iload 8, 2) := by decide +kernel
theorem dX5_bakeLoaf_61 : decode cX5_bakeLoaf 61 = .ok (.ishr, 1) := by decide +kernel
theorem dX5_bakeLoaf_62 : decode cX5_bakeLoaf 62 = .ok (.iconst 1, 1) := by decide +kernel
theorem dX5_bakeLoaf_63 : decode cX5_bakeLoaf 63 = .ok (.iand, 1) := by decide +kernel
theorem dX5_bakeLoaf_64 : decode cX5_bakeLoaf 64 = .ok (.ifCond .eq 20, 3) := by decide +kernel
theorem dX5_bakeLoaf_67 : decode cX5_bakeLoaf 67 = .ok (.iload 7, 2) := by decide +kernel
theorem dX5_bakeLoaf_69 : decode cX5_bakeLoaf 69 = .ok (.aload_n 1, 1) := by decide +kernel
theorem dX5_bakeLoaf_70 : decode cX5_bakeLoaf 70 = .ok (.getfield 68, 3) := by decide +kernel
theorem dX5_bakeLoaf_73 : decode cX5_bakeLoaf 73 = .ok (.iload 8, 2) := by decide +kernel
theorem dX5_bakeLoaf_75 : decode cX5_bakeLoaf 75 = .ok (.iconst 4, 1) := by decide +kernel
theorem dX5_bakeLoaf_76 : decode cX5_bakeLoaf 76 = .ok (.imul, 1) := by decide +kernel
theorem dX5_bakeLoaf_77 : decode cX5_bakeLoaf 77 = .ok (.iload 6, 2) := by decide +kernel
theorem dX5_bakeLoaf_79 : decode cX5_bakeLoaf 79 = .ok (.iadd, 1) := by decide +kernel
theorem dX5_bakeLoaf_80 : decode cX5_bakeLoaf 80 = .ok (.iaload, 1) := by decide +kernel
theorem dX5_bakeLoaf_81 : decode cX5_bakeLoaf 81 = .ok (.iadd, 1) := by decide +kernel
theorem dX5_bakeLoaf_82 : decode cX5_bakeLoaf 82 = .ok (.istore 7, 2) := by decide +kernel
theorem dX5_bakeLoaf_84 : decode cX5_bakeLoaf 84 = .ok (.iinc 8 1, 3) := by decide +kernel
theorem dX5_bakeLoaf_87 : decode cX5_bakeLoaf 87 = .ok (.goto (-40), 3) := by decide +kernel
theorem dX5_bakeLoaf_90 : decode cX5_bakeLoaf 90 = .ok (.iload_n 2, 1) := by decide +kernel
theorem dX5_bakeLoaf_91 : decode cX5_bakeLoaf 91 = .ok (.iconst 4, 1) := by decide +kernel
theorem dX5_bakeLoaf_92 : decode cX5_bakeLoaf 92 = .ok (.imul, 1) := by decide +kernel
theorem dX5_bakeLoaf_93 : decode cX5_bakeLoaf 93 = .ok (.iload 6, 2) := by decide +kernel
theorem dX5_bakeLoaf_95 : decode cX5_bakeLoaf 95 = .ok (.iadd, 1) := by decide +kernel
theorem dX5_bakeLoaf_96 : decode cX5_bakeLoaf 96 = .ok (.istore 8, 2) := by decide +kernel
theorem dX5_bakeLoaf_98 : decode cX5_bakeLoaf 98 = .ok (.aload_n 1, 1) := by decide +kernel
theorem dX5_bakeLoaf_99 : decode cX5_bakeLoaf 99 = .ok (.getfield 71, 3) := by decide +kernel
theorem dX5_bakeLoaf_102 : decode cX5_bakeLoaf 102 = .ok (.iload 8, 2) := by decide +kernel
theorem dX5_bakeLoaf_104 : decode cX5_bakeLoaf 104 = .ok (.bipush 100, 2) := by decide +kernel
theorem dX5_bakeLoaf_106 : decode cX5_bakeLoaf 106 = .ok (.iload 5, 2) := by decide +kernel
theorem dX5_bakeLoaf_108 : decode cX5_bakeLoaf 108 = .ok (.isub, 1) := by decide +kernel
theorem dX5_bakeLoaf_109 : decode cX5_bakeLoaf 109 = .ok (.iload 7, 2) := by decide +kernel
theorem dX5_bakeLoaf_111 : decode cX5_bakeLoaf 111 = .ok (.imul, 1) := by decide +kernel
theorem dX5_bakeLoaf_112 : decode cX5_bakeLoaf 112 = .ok (.iload 5, 2) := by decide +kernel
theorem dX5_bakeLoaf_114 : decode cX5_bakeLoaf 114 = .ok (.iload 4, 2) := by decide +kernel
theorem dX5_bakeLoaf_116 : decode cX5_bakeLoaf 116 = .ok (.imul, 1) := by decide +kernel
theorem dX5_bakeLoaf_117 : decode cX5_bakeLoaf 117 = .ok (.aload_n 1, 1) := by decide +kernel
theorem dX5_bakeLoaf_118 : decode cX5_bakeLoaf 118 = .ok (.getfield 71, 3) := by decide +kernel
theorem dX5_bakeLoaf_121 : decode cX5_bakeLoaf 121 = .ok (.iload 8, 2) := by decide +kernel
theorem dX5_bakeLoaf_123 : decode cX5_bakeLoaf 123 = .ok (.iaload, 1) := by decide +kernel
theorem dX5_bakeLoaf_124 : decode cX5_bakeLoaf 124 = .ok (.imul, 1) := by decide +kernel
theorem dX5_bakeLoaf_125 : decode cX5_bakeLoaf 125 = .ok (.iadd, 1) := by decide +kernel
theorem dX5_bakeLoaf_126 : decode cX5_bakeLoaf 126 = .ok (.bipush 100, 2) := by decide +kernel
theorem dX5_bakeLoaf_128 : decode cX5_bakeLoaf 128 = .ok (.iload 4, 2) := by decide +kernel
theorem dX5_bakeLoaf_130 : decode cX5_bakeLoaf 130 = .ok (.imul, 1) := by decide +kernel
theorem dX5_bakeLoaf_131 : decode cX5_bakeLoaf 131 = .ok (.idiv, 1) := by decide +kernel
theorem dX5_bakeLoaf_132 : decode cX5_bakeLoaf 132 = .ok (.iastore, 1) := by decide +kernel
theorem dX5_bakeLoaf_133 : decode cX5_bakeLoaf 133 = .ok (.iinc 6 1, 3) := by decide +kernel
theorem dX5_bakeLoaf_136 : decode cX5_bakeLoaf 136 = .ok (.goto (-106), 3) := by decide +kernel
theorem dX5_bakeLoaf_139 : decode cX5_bakeLoaf 139 = .ok (.return_, 1) := by decide +kernel
theorem dX5_eat_0 : decode cX5_eat 0 = .ok (.aload_n 1, 1) := by decide +kernel
theorem dX5_eat_1 : decode cX5_eat 1 = .ok (.getfield 74, 3) := by decide +kernel
theorem dX5_eat_4 : decode cX5_eat 4 = .ok (.iload_n 3, 1) := by decide +kernel
theorem dX5_eat_5 : decode cX5_eat 5 = .ok (.iaload, 1) := by decide +kernel
theorem dX5_eat_6 : decode cX5_eat 6 = .ok (.istore 4, 2) := by decide +kernel
theorem dX5_eat_8 : decode cX5_eat 8 = .ok (.aload_n 1, 1) := by decide +kernel
theorem dX5_eat_9 : decode cX5_eat 9 = .ok (.getfield 77, 3) := by decide +kernel
theorem dX5_eat_12 : decode cX5_eat 12 = .ok (.iload_n 3, 1) := by decide +kernel
theorem dX5_eat_13 : decode cX5_eat 13 = .ok (.iaload, 1) := by decide +kernel
theorem dX5_eat_14 : decode cX5_eat 14 = .ok (.istore 5, 2) := by decide +kernel
theorem dX5_eat_16 : decode cX5_eat 16 = .ok (.aload_n 1, 1) := by decide +kernel
theorem dX5_eat_17 : decode cX5_eat 17 = .ok (.bipush 6, 2) := by decide +kernel
theorem dX5_eat_19 : decode cX5_eat 19 = .ok (.invokevirtual 80, 3) := by decide +kernel
theorem dX5_eat_22 : decode cX5_eat 22 = .ok (.istore 6, 2) := by decide +kernel
theorem dX5_eat_24 : decode cX5_eat 24 = .ok (.iconst 0, 1) := by decide +kernel
theorem dX5_eat_25 : decode cX5_eat 25 = .ok (.istore 7, 2) := by decide +kernel
theorem dX5_eat_27 : decode cX5_eat 27 = .ok (.iload 7, 2) := by decide +kernel
theorem dX5_eat_29 : decode cX5_eat 29 = .ok (.aload_n 1, 1) := by decide +kernel
theorem dX5_eat_30 : decode cX5_eat 30 = .ok (.getfield 36, 3) := by decide +kernel
theorem dX5_eat_33 : decode cX5_eat 33 = .ok (.iconst 0, 1) := by decide +kernel
theorem dX5_eat_34 : decode cX5_eat 34 = .ok (.iaload, 1) := by decide +kernel
theorem dX5_eat_35 : decode cX5_eat 35 = .ok (.if_icmp .ge 96, 3) := by decide +kernel
theorem dX5_eat_38 : decode cX5_eat 38 = .ok (.aload_n 2, 1) := by decide +kernel
theorem dX5_eat_39 : decode cX5_eat 39 = .ok (.getfield 71, 3) := by decide +kernel
theorem dX5_eat_42 : decode cX5_eat 42 = .ok (.iload 5, 2) := by decide +kernel
theorem dX5_eat_44 : decode cX5_eat 44 = .ok (.iconst 4, 1) := by decide +kernel
theorem dX5_eat_45 : decode cX5_eat 45 = .ok (.imul, 1) := by decide +kernel
theorem dX5_eat_46 : decode cX5_eat 46 = .ok (.iload 7, 2) := by decide +kernel
theorem dX5_eat_48 : decode cX5_eat 48 = .ok (.iadd, 1) := by decide +kernel
theorem dX5_eat_49 : decode cX5_eat 49 = .ok (.iaload, 1) := by decide +kernel
theorem dX5_eat_50 : decode cX5_eat 50 = .ok (.istore 8, 2) := by decide +kernel
theorem dX5_eat_52 : decode cX5_eat 52 = .ok (.iload 6, 2) := by decide +kernel
theorem dX5_eat_54 : decode cX5_eat 54 = .ok (.ifCond .eq 54, 3) := by decide +kernel
theorem dX5_eat_57 : decode cX5_eat 57 = .ok (.aload_n 0, 1) := by decide +kernel
theorem dX5_eat_58 : decode cX5_eat 58 = .ok (.getfield 12, 3) := by decide +kernel
theorem dX5_eat_61 : decode cX5_eat 61 = .ok (.iload 7, 2) := by decide +kernel
theorem dX5_eat_63 : decode cX5_eat 63 = .ok (.putfield 84, 3) := by decide +kernel
theorem dX5_eat_66 : decode cX5_eat 66 = .ok (.aload_n 0, 1) := by decide +kernel
theorem dX5_eat_67 : decode cX5_eat 67 = .ok (.getfield 12, 3) := by decide +kernel
theorem dX5_eat_70 : decode cX5_eat 70 = .ok (.iload 8, 2) := by decide +kernel
theorem dX5_eat_72 : decode cX5_eat 72 = .ok (.putfield 87, 3) := by decide +kernel
theorem dX5_eat_75 : decode cX5_eat 75 = .ok (.aload_n 0, 1) := by decide +kernel
theorem dX5_eat_76 : decode cX5_eat 76 = .ok (.getfield 12, 3) := by decide +kernel
theorem dX5_eat_79 : decode cX5_eat 79 = .ok (.aload_n 1, 1) := by decide +kernel
theorem dX5_eat_80 : decode cX5_eat 80 = .ok (.getfield 90, 3) := by decide +kernel
theorem dX5_eat_83 : decode cX5_eat 83 = .ok (.getfield 94, 3) := by decide +kernel
theorem dX5_eat_86 : decode cX5_eat 86 = .ok (.aload_n 1, 1) := by decide +kernel
theorem dX5_eat_87 : decode cX5_eat 87 = .ok (.getfield 99, 3) := by decide +kernel
theorem dX5_eat_90 : decode cX5_eat 90 = .ok (.bipush 6, 2) := by decide +kernel
theorem dX5_eat_92 : decode cX5_eat 92 = .ok (.iaload, 1) := by decide +kernel
theorem dX5_eat_93 : decode cX5_eat 93 = .ok (.aload_n 1, 1) := by decide +kernel
theorem dX5_eat_94 : decode cX5_eat 94 = .ok (.getfield 102, 3) := by decide +kernel
theorem dX5_eat_97 : decode cX5_eat 97 = .ok (.bipush 6, 2) := by decide +kernel
theorem dX5_eat_99 : decode cX5_eat 99 = .ok (.iaload, 1) := by decide +kernel
theorem dX5_eat_100 : decode cX5_eat 100 = .ok (.aload_n 2, 1) := by decide +kernel
theorem dX5_eat_101 : decode cX5_eat 101 = .ok (.iload 4, 2) := by decide +kernel
theorem dX5_eat_103 : decode cX5_eat 103 = .ok (.invokevirtual 105, 3) := by decide +kernel
theorem dX5_eat_106 : decode cX5_eat 106 = .ok (.istore 8, 2) := by decide +kernel
theorem dX5_eat_108 : decode cX5_eat 108 = .ok (.aload_n 2, 1) := by decide +kernel
theorem dX5_eat_109 : decode cX5_eat 109 = .ok (.getfield 68, 3) := by decide +kernel
theorem dX5_eat_112 : decode cX5_eat 112 = .ok (.iload 4, 2) := by decide +kernel
theorem dX5_eat_114 : decode cX5_eat 114 = .ok (.iconst 4, 1) := by decide +kernel
theorem dX5_eat_115 : decode cX5_eat 115 = .ok (.imul, 1) := by decide +kernel
theorem dX5_eat_116 : decode cX5_eat 116 = .ok (.iload 7, 2) := by decide +kernel
theorem dX5_eat_118 : decode cX5_eat 118 = .ok (.iadd, 1) := by decide +kernel
theorem dX5_eat_119 : decode cX5_eat 119 = .ok (.iload 8, 2) := by decide +kernel
theorem dX5_eat_121 : decode cX5_eat 121 = .ok (.invokestatic 109, 3) := by decide +kernel
theorem dX5_eat_124 : decode cX5_eat 124 = .ok (.iastore, 1) := by decide +kernel
theorem dX5_eat_125 : decode cX5_eat 125 = .ok (.iinc 7 1, 3) := by decide +kernel
theorem dX5_eat_128 : decode cX5_eat 128 = .ok (.goto (-101), 3) := by decide +kernel
theorem dX5_eat_131 : decode cX5_eat 131 = .ok (.return_, 1) := by decide +kernel
theorem dX5_sleep_0 : decode cX5_sleep 0 = .ok (.aload_n 1, 1) := by decide +kernel
theorem dX5_sleep_1 : decode cX5_sleep 1 = .ok (.bipush 7, 2) := by decide +kernel
theorem dX5_sleep_3 : decode cX5_sleep 3 = .ok (.invokevirtual 80, 3) := by decide +kernel
theorem dX5_sleep_6 : decode cX5_sleep 6 = .ok (.istore 4, 2) := by decide +kernel
theorem dX5_sleep_8 : decode cX5_sleep 8 = .ok (.iconst 0, 1) := by decide +kernel
theorem dX5_sleep_9 : decode cX5_sleep 9 = .ok (.istore 5, 2) := by decide +kernel
theorem dX5_sleep_11 : decode cX5_sleep 11 = .ok (.iload 5, 2) := by decide +kernel
theorem dX5_sleep_13 : decode cX5_sleep 13 = .ok (.aload_n 1, 1) := by decide +kernel
theorem dX5_sleep_14 : decode cX5_sleep 14 = .ok (.getfield 36, 3) := by decide +kernel
theorem dX5_sleep_17 : decode cX5_sleep 17 = .ok (.iconst 0, 1) := by decide +kernel
theorem dX5_sleep_18 : decode cX5_sleep 18 = .ok (.iaload, 1) := by decide +kernel
theorem dX5_sleep_19 : decode cX5_sleep 19 = .ok (.if_icmp .ge 97, 3) := by decide +kernel
theorem dX5_sleep_22 : decode cX5_sleep 22 = .ok (.iload_n 3, 1) := by decide +kernel
theorem dX5_sleep_23 : decode cX5_sleep 23 = .ok (.iconst 4, 1) := by decide +kernel
theorem dX5_sleep_24 : decode cX5_sleep 24 = .ok (.imul, 1) := by decide +kernel
theorem dX5_sleep_25 : decode cX5_sleep 25 = .ok (.iload 5, 2) := by decide +kernel
theorem dX5_sleep_27 : decode cX5_sleep 27 = .ok (.iadd, 1) := by decide +kernel
theorem dX5_sleep_28 : decode cX5_sleep 28 = .ok (.istore 6, 2) := by decide +kernel
theorem dX5_sleep_30 : decode cX5_sleep 30 = .ok (.iload 4, 2) := by decide +kernel
theorem dX5_sleep_32 : decode cX5_sleep 32 = .ok (.ifCond .eq 64, 3) := by decide +kernel
theorem dX5_sleep_35 : decode cX5_sleep 35 = .ok (.aload_n 0, 1) := by decide +kernel
theorem dX5_sleep_36 : decode cX5_sleep 36 = .ok (.getfield 12, 3) := by decide +kernel
theorem dX5_sleep_39 : decode cX5_sleep 39 = .ok (.iload 5, 2) := by decide +kernel
theorem dX5_sleep_41 : decode cX5_sleep 41 = .ok (.putfield 84, 3) := by decide +kernel
theorem dX5_sleep_44 : decode cX5_sleep 44 = .ok (.aload_n 0, 1) := by decide +kernel
theorem dX5_sleep_45 : decode cX5_sleep 45 = .ok (.getfield 12, 3) := by decide +kernel
theorem dX5_sleep_48 : decode cX5_sleep 48 = .ok (.iconst 0, 1) := by decide +kernel
theorem dX5_sleep_49 : decode cX5_sleep 49 = .ok (.putfield 87, 3) := by decide +kernel
theorem dX5_sleep_52 : decode cX5_sleep 52 = .ok (.aload_n 0, 1) := by decide +kernel
theorem dX5_sleep_53 : decode cX5_sleep 53 = .ok (.getfield 12, 3) := by decide +kernel
theorem dX5_sleep_56 : decode cX5_sleep 56 = .ok (.aload_n 1, 1) := by decide +kernel
theorem dX5_sleep_57 : decode cX5_sleep 57 = .ok (.getfield 90, 3) := by decide +kernel
theorem dX5_sleep_60 : decode cX5_sleep 60 = .ok (.getfield 94, 3) := by decide +kernel
theorem dX5_sleep_63 : decode cX5_sleep 63 = .ok (.aload_n 1, 1) := by decide +kernel
theorem dX5_sleep_64 : decode cX5_sleep 64 = .ok (.getfield 99, 3) := by decide +kernel
theorem dX5_sleep_67 : decode cX5_sleep 67 = .ok (.bipush 7, 2) := by decide +kernel
theorem dX5_sleep_69 : decode cX5_sleep 69 = .ok (.iaload, 1) := by decide +kernel
theorem dX5_sleep_70 : decode cX5_sleep 70 = .ok (.aload_n 1, 1) := by decide +kernel
theorem dX5_sleep_71 : decode cX5_sleep 71 = .ok (.getfield 102, 3) := by decide +kernel
theorem dX5_sleep_74 : decode cX5_sleep 74 = .ok (.bipush 7, 2) := by decide +kernel
theorem dX5_sleep_76 : decode cX5_sleep 76 = .ok (.iaload, 1) := by decide +kernel
theorem dX5_sleep_77 : decode cX5_sleep 77 = .ok (.aload_n 2, 1) := by decide +kernel
theorem dX5_sleep_78 : decode cX5_sleep 78 = .ok (.iload_n 3, 1) := by decide +kernel
theorem dX5_sleep_79 : decode cX5_sleep 79 = .ok (.invokevirtual 105, 3) := by decide +kernel
theorem dX5_sleep_82 : decode cX5_sleep 82 = .ok (.istore 7, 2) := by decide +kernel
theorem dX5_sleep_84 : decode cX5_sleep 84 = .ok (.aload_n 2, 1) := by decide +kernel
theorem dX5_sleep_85 : decode cX5_sleep 85 = .ok (.getfield 112, 3) := by decide +kernel
theorem dX5_sleep_88 : decode cX5_sleep 88 = .ok (.iload 6, 2) := by decide +kernel
theorem dX5_sleep_90 : decode cX5_sleep 90 = .ok (.iload 7, 2) := by decide +kernel
theorem dX5_sleep_92 : decode cX5_sleep 92 = .ok (.invokestatic 109, 3) := by decide +kernel
theorem dX5_sleep_95 : decode cX5_sleep 95 = .ok (.iastore, 1) := by decide +kernel
theorem dX5_sleep_96 : decode cX5_sleep 96 = .ok (.aload_n 2, 1) := by decide +kernel
theorem dX5_sleep_97 : decode cX5_sleep 97 = .ok (.getfield 68, 3) := by decide +kernel
theorem dX5_sleep_100 : decode cX5_sleep 100 = .ok (.iload 6, 2) := by decide +kernel
theorem dX5_sleep_102 : decode cX5_sleep 102 = .ok (.aload_n 2, 1) := by decide +kernel
theorem dX5_sleep_103 : decode cX5_sleep 103 = .ok (.getfield 112, 3) := by decide +kernel
theorem dX5_sleep_106 : decode cX5_sleep 106 = .ok (.iload 6, 2) := by decide +kernel
theorem dX5_sleep_108 : decode cX5_sleep 108 = .ok (.iaload, 1) := by decide +kernel
theorem dX5_sleep_109 : decode cX5_sleep 109 = .ok (.iastore, 1) := by decide +kernel
theorem dX5_sleep_110 : decode cX5_sleep 110 = .ok (.iinc 5 1, 3) := by decide +kernel
theorem dX5_sleep_113 : decode cX5_sleep 113 = .ok (.goto (-102), 3) := by decide +kernel
theorem dX5_sleep_116 : decode cX5_sleep 116 = .ok (.return_, 1) := by decide +kernel
theorem dX5_deedsDone_0 : decode cX5_deedsDone 0 = .ok (.iconst 0, 1) := by decide +kernel
theorem dX5_deedsDone_1 : decode cX5_deedsDone 1 = .ok (.istore 4, 2) := by decide +kernel
theorem dX5_deedsDone_3 : decode cX5_deedsDone 3 = .ok (.aload_n 0, 1) := by decide +kernel
theorem dX5_deedsDone_4 : decode cX5_deedsDone 4 = .ok (.getfield 12, 3) := by decide +kernel
theorem dX5_deedsDone_7 : decode cX5_deedsDone 7 = .ok (.aload_n 1, 1) := by decide +kernel
theorem dX5_deedsDone_8 : decode cX5_deedsDone 8 = .ok (.getfield 36, 3) := by decide +kernel
theorem dX5_deedsDone_11 : decode cX5_deedsDone 11 = .ok (.iconst 0, 1) := by decide +kernel
theorem dX5_deedsDone_12 : decode cX5_deedsDone 12 = .ok (.iaload, 1) := by decide +kernel
theorem dX5_deedsDone_13 : decode cX5_deedsDone 13 = .ok (.putfield 115, 3) := by decide +kernel
theorem dX5_deedsDone_16 : decode cX5_deedsDone 16 = .ok (.iconst 0, 1) := by decide +kernel
theorem dX5_deedsDone_17 : decode cX5_deedsDone 17 = .ok (.istore 5, 2) := by decide +kernel
theorem dX5_deedsDone_19 : decode cX5_deedsDone 19 = .ok (.iload 5, 2) := by decide +kernel
theorem dX5_deedsDone_21 : decode cX5_deedsDone 21 = .ok (.aload_n 1, 1) := by decide +kernel
theorem dX5_deedsDone_22 : decode cX5_deedsDone 22 = .ok (.getfield 36, 3) := by decide +kernel
theorem dX5_deedsDone_25 : decode cX5_deedsDone 25 = .ok (.iconst 4, 1) := by decide +kernel
theorem dX5_deedsDone_26 : decode cX5_deedsDone 26 = .ok (.iaload, 1) := by decide +kernel
theorem dX5_deedsDone_27 : decode cX5_deedsDone 27 = .ok (.if_icmp .ge 51, 3) := by decide +kernel
theorem dX5_deedsDone_30 : decode cX5_deedsDone 30 = .ok (.aload_n 0, 1) := by decide +kernel
theorem dX5_deedsDone_31 : decode cX5_deedsDone 31 = .ok (.getfield 12, 3) := by decide +kernel
theorem dX5_deedsDone_34 : decode cX5_deedsDone 34 = .ok (.aload_n 1, 1) := by decide +kernel
theorem dX5_deedsDone_35 : decode cX5_deedsDone 35 = .ok (.getfield 90, 3) := by decide +kernel
theorem dX5_deedsDone_38 : decode cX5_deedsDone 38 = .ok (.getfield 94, 3) := by decide +kernel
theorem dX5_deedsDone_41 : decode cX5_deedsDone 41 = .ok (.aload_n 1, 1) := by decide +kernel
theorem dX5_deedsDone_42 : decode cX5_deedsDone 42 = .ok (.getfield 99, 3) := by decide +kernel
theorem dX5_deedsDone_45 : decode cX5_deedsDone 45 = .ok (.iload 5, 2) := by decide +kernel
theorem dX5_deedsDone_47 : decode cX5_deedsDone 47 = .ok (.iaload, 1) := by decide +kernel
theorem dX5_deedsDone_48 : decode cX5_deedsDone 48 = .ok (.aload_n 1, 1) := by decide +kernel
theorem dX5_deedsDone_49 : decode cX5_deedsDone 49 = .ok (.getfield 102, 3) := by decide +kernel
theorem dX5_deedsDone_52 : decode cX5_deedsDone 52 = .ok (.iload 5, 2) := by decide +kernel
theorem dX5_deedsDone_54 : decode cX5_deedsDone 54 = .ok (.iaload, 1) := by decide +kernel
theorem dX5_deedsDone_55 : decode cX5_deedsDone 55 = .ok (.aload_n 2, 1) := by decide +kernel
theorem dX5_deedsDone_56 : decode cX5_deedsDone 56 = .ok (.iload_n 3, 1) := by decide +kernel
theorem dX5_deedsDone_57 : decode cX5_deedsDone 57 = .ok (.invokevirtual 105, 3) := by decide +kernel
theorem dX5_deedsDone_60 : decode cX5_deedsDone 60 = .ok (.ifCond .eq 12, 3) := by decide +kernel
theorem dX5_deedsDone_63 : decode cX5_deedsDone 63 = .ok (.iload 4, 2) := by decide +kernel
theorem dX5_deedsDone_65 : decode cX5_deedsDone 65 = .ok (.iconst 1, 1) := by decide +kernel
theorem dX5_deedsDone_66 : decode cX5_deedsDone 66 = .ok (.iload 5, 2) := by decide +kernel
theorem dX5_deedsDone_68 : decode cX5_deedsDone 68 = .ok (.ishl, 1) := by decide +kernel
theorem dX5_deedsDone_69 : decode cX5_deedsDone 69 = .ok (.ior, 1) := by decide +kernel
theorem dX5_deedsDone_70 : decode cX5_deedsDone 70 = .ok (.istore 4, 2) := by decide +kernel
theorem dX5_deedsDone_72 : decode cX5_deedsDone 72 = .ok (.iinc 5 1, 3) := by decide +kernel
theorem dX5_deedsDone_75 : decode cX5_deedsDone 75 = .ok (.goto (-56), 3) := by decide +kernel
theorem dX5_deedsDone_78 : decode cX5_deedsDone 78 = .ok (.iload 4, 2) := by decide +kernel
theorem dX5_deedsDone_80 : decode cX5_deedsDone 80 = .ok (.ireturn, 1) := by decide +kernel
theorem dX5_valueAsked_0 : decode cX5_valueAsked 0 = .ok (.aload_n 0, 1) := by decide +kernel
theorem dX5_valueAsked_1 : decode cX5_valueAsked 1 = .ok (.getfield 12, 3) := by decide +kernel
theorem dX5_valueAsked_4 : decode cX5_valueAsked 4 = .ok (.aload_n 0, 1) := by decide +kernel
theorem dX5_valueAsked_5 : decode cX5_valueAsked 5 = .ok (.aload_n 1, 1) := by decide +kernel
theorem dX5_valueAsked_6 : decode cX5_valueAsked 6 = .ok (.aload_n 3, 1) := by decide +kernel
theorem dX5_valueAsked_7 : decode cX5_valueAsked 7 = .ok (.iload 4, 2) := by decide +kernel
theorem dX5_valueAsked_9 : decode cX5_valueAsked 9 = .ok (.invokevirtual 118, 3) := by decide +kernel
theorem dX5_valueAsked_12 : decode cX5_valueAsked 12 = .ok (.putfield 122, 3) := by decide +kernel
theorem dX5_valueAsked_15 : decode cX5_valueAsked 15 = .ok (.aload_n 0, 1) := by decide +kernel
theorem dX5_valueAsked_16 : decode cX5_valueAsked 16 = .ok (.getfield 12, 3) := by decide +kernel
theorem dX5_valueAsked_19 : decode cX5_valueAsked 19 = .ok (.aload_n 2, 1) := by decide +kernel
theorem dX5_valueAsked_20 : decode cX5_valueAsked 20 = .ok (.getfield 94, 3) := by decide +kernel
theorem dX5_valueAsked_23 : decode cX5_valueAsked 23 = .ok (.iconst 0, 1) := by decide +kernel
theorem dX5_valueAsked_24 : decode cX5_valueAsked 24 = .ok (.aload_n 2, 1) := by decide +kernel
theorem dX5_valueAsked_25 : decode cX5_valueAsked 25 = .ok (.getfield 125, 3) := by decide +kernel
theorem dX5_valueAsked_28 : decode cX5_valueAsked 28 = .ok (.aload_n 3, 1) := by decide +kernel
theorem dX5_valueAsked_29 : decode cX5_valueAsked 29 = .ok (.iload 4, 2) := by decide +kernel
theorem dX5_valueAsked_31 : decode cX5_valueAsked 31 = .ok (.invokevirtual 105, 3) := by decide +kernel
theorem dX5_valueAsked_34 : decode cX5_valueAsked 34 = .ok (.ireturn, 1) := by decide +kernel
theorem dX6_init_0 : decode cX6_init 0 = .ok (.aload_n 0, 1) := by decide +kernel
theorem dX6_init_1 : decode cX6_init 1 = .ok (.invokespecial 3, 3) := by decide +kernel
theorem dX6_init_4 : decode cX6_init 4 = .ok (.aload_n 0, 1) := by decide +kernel
theorem dX6_init_5 : decode cX6_init 5 = .ok (.sipush 1600, 3) := by decide +kernel
theorem dX6_init_8 : decode cX6_init 8 = .ok (.newarray .int, 2) := by decide +kernel
theorem dX6_init_10 : decode cX6_init 10 = .ok (.putfield 9, 3) := by decide +kernel
theorem dX6_init_13 : decode cX6_init 13 = .ok (.aload_n 0, 1) := by decide +kernel
theorem dX6_init_14 : decode cX6_init 14 = .ok (.iconst 0, 1) := by decide +kernel
theorem dX6_init_15 : decode cX6_init 15 = .ok (.putfield 15, 3) := by decide +kernel
theorem dX6_init_18 : decode cX6_init 18 = .ok (.aload_n 0, 1) := by decide +kernel
theorem dX6_init_19 : decode cX6_init 19 = .ok (.iconst 0, 1) := by decide +kernel
theorem dX6_init_20 : decode cX6_init 20 = .ok (.putfield 19, 3) := by decide +kernel
theorem dX6_init_23 : decode cX6_init 23 = .ok (.aload_n 0, 1) := by decide +kernel
theorem dX6_init_24 : decode cX6_init 24 = .ok (.iconst 0, 1) := by decide +kernel
theorem dX6_init_25 : decode cX6_init 25 = .ok (.putfield 22, 3) := by decide +kernel
theorem dX6_init_28 : decode cX6_init 28 = .ok (.aload_n 0, 1) := by decide +kernel
theorem dX6_init_29 : decode cX6_init 29 = .ok (.iconst 0, 1) := by decide +kernel
theorem dX6_init_30 : decode cX6_init 30 = .ok (.putfield 25, 3) := by decide +kernel
theorem dX6_init_33 : decode cX6_init 33 = .ok (.aload_n 0, 1) := by decide +kernel
theorem dX6_init_34 : decode cX6_init 34 = .ok (.iconst (-1), 1) := by decide +kernel
theorem dX6_init_35 : decode cX6_init 35 = .ok (.putfield 28, 3) := by decide +kernel
theorem dX6_init_38 : decode cX6_init 38 = .ok (.aload_n 0, 1) := by decide +kernel
theorem dX6_init_39 : decode cX6_init 39 = .ok (.iconst 0, 1) := by decide +kernel
theorem dX6_init_40 : decode cX6_init 40 = .ok (.putfield 31, 3) := by decide +kernel
theorem dX6_init_43 : decode cX6_init 43 = .ok (.aload_n 0, 1) := by decide +kernel
theorem dX6_init_44 : decode cX6_init 44 = .ok (.iconst 0, 1) := by decide +kernel
theorem dX6_init_45 : decode cX6_init 45 = .ok (.putfield 34, 3) := by decide +kernel
theorem dX6_init_48 : decode cX6_init 48 = .ok (.aload_n 0, 1) := by decide +kernel
theorem dX6_init_49 : decode cX6_init 49 = .ok (.iconst (-1), 1) := by decide +kernel
theorem dX6_init_50 : decode cX6_init 50 = .ok (.putfield 37, 3) := by decide +kernel
theorem dX6_init_53 : decode cX6_init 53 = .ok (.return_, 1) := by decide +kernel
theorem dX6_start_0 : decode cX6_start 0 = .ok (.aload_n 0, 1) := by decide +kernel
theorem dX6_start_1 : decode cX6_start 1 = .ok (.iconst 0, 1) := by decide +kernel
theorem dX6_start_2 : decode cX6_start 2 = .ok (.iload_n 1, 1) := by decide +kernel
theorem dX6_start_3 : decode cX6_start 3 = .ok (.aload_n 0, 1) := by decide +kernel
theorem dX6_start_4 : decode cX6_start 4 = .ok (.getfield 9, 3) := by decide +kernel
theorem dX6_start_7 : decode cX6_start 7 = .ok (.arraylength, 1) := by decide +kernel
theorem dX6_start_8 : decode cX6_start 8 = .ok (.invokestatic 40, 3) := by decide +kernel
theorem dX6_start_11 : decode cX6_start 11 = .ok (.invokestatic 46, 3) := by decide +kernel
theorem dX6_start_14 : decode cX6_start 14 = .ok (.putfield 15, 3) := by decide +kernel
theorem dX6_start_17 : decode cX6_start 17 = .ok (.aload_n 0, 1) := by decide +kernel
theorem dX6_start_18 : decode cX6_start 18 = .ok (.iconst 0, 1) := by decide +kernel
theorem dX6_start_19 : decode cX6_start 19 = .ok (.putfield 19, 3) := by decide +kernel
theorem dX6_start_22 : decode cX6_start 22 = .ok (.aload_n 0, 1) := by decide +kernel
theorem dX6_start_23 : decode cX6_start 23 = .ok (.iconst 0, 1) := by decide +kernel
theorem dX6_start_24 : decode cX6_start 24 = .ok (.putfield 22, 3) := by decide +kernel
theorem dX6_start_27 : decode cX6_start 27 = .ok (.aload_n 0, 1) := by decide +kernel
theorem dX6_start_28 : decode cX6_start 28 = .ok (.iconst 0, 1) := by decide +kernel
theorem dX6_start_29 : decode cX6_start 29 = .ok (.putfield 34, 3) := by decide +kernel
theorem dX6_start_32 : decode cX6_start 32 = .ok (.aload_n 0, 1) := by decide +kernel
theorem dX6_start_33 : decode cX6_start 33 = .ok (.iconst (-1), 1) := by decide +kernel
theorem dX6_start_34 : decode cX6_start 34 = .ok (.putfield 37, 3) := by decide +kernel
theorem dX6_start_37 : decode cX6_start 37 = .ok (.aload_n 0, 1) := by decide +kernel
theorem dX6_start_38 : decode cX6_start 38 = .ok (.invokevirtual 49, 3) := by decide +kernel
theorem dX6_start_41 : decode cX6_start 41 = .ok (.return_, 1) := by decide +kernel
theorem dX6_next_0 : decode cX6_next 0 = .ok (.aload_n 0, 1) := by decide +kernel
theorem dX6_next_1 : decode cX6_next 1 = .ok (.getfield 19, 3) := by decide +kernel
theorem dX6_next_4 : decode cX6_next 4 = .ok (.istore_n 1, 1) := by decide +kernel
theorem dX6_next_5 : decode cX6_next 5 = .ok (.aload_n 0, 1) := by decide +kernel
theorem dX6_next_6 : decode cX6_next 6 = .ok (.getfield 22, 3) := by decide +kernel
theorem dX6_next_9 : decode cX6_next 9 = .ok (.iconst 1, 1) := by decide +kernel
theorem dX6_next_10 : decode cX6_next 10 = .ok (.if_icmp .eq 11, 3) := by decide +kernel
theorem dX6_next_13 : decode cX6_next 13 = .ok (.aload_n 0, 1) := by decide +kernel
theorem dX6_next_14 : decode cX6_next 14 = .ok (.getfield 22, 3) := by decide +kernel
theorem dX6_next_17 : decode cX6_next 17 = .ok (.iconst 2, 1) := by decide +kernel
theorem dX6_next_18 : decode cX6_next 18 = .ok (.if_icmp .ne 7, 3) := by decide +kernel
theorem dX6_next_21 : decode cX6_next 21 = .ok (.iconst 1, 1) := by decide +kernel
theorem dX6_next_22 : decode cX6_next 22 = .ok (.goto 4, 3) := by decide +kernel
theorem dX6_next_25 : decode cX6_next 25 = .ok (.iconst 0, 1) := by decide +kernel
theorem dX6_next_26 : decode cX6_next 26 = .ok (.istore_n 2, 1) := by decide +kernel
theorem dX6_next_27 : decode cX6_next 27 = .ok (.aload_n 0, 1) := by decide +kernel
theorem dX6_next_28 : decode cX6_next 28 = .ok (.iload_n 1, 1) := by decide +kernel
theorem dX6_next_29 : decode cX6_next 29 = .ok (.putfield 25, 3) := by decide +kernel
theorem dX6_next_32 : decode cX6_next 32 = .ok (.aload_n 0, 1) := by decide +kernel
theorem dX6_next_33 : decode cX6_next 33 = .ok (.getfield 25, 3) := by decide +kernel
theorem dX6_next_36 : decode cX6_next 36 = .ok (.aload_n 0, 1) := by decide +kernel
theorem dX6_next_37 : decode cX6_next 37 = .ok (.getfield 15, 3) := by decide +kernel
theorem dX6_next_40 : decode cX6_next 40 = .ok (.if_icmp .ge 31, 3) := by decide +kernel
theorem dX6_next_43 : decode cX6_next 43 = .ok (.aload_n 0, 1) := by decide +kernel
theorem dX6_next_44 : decode cX6_next 44 = .ok (.getfield 9, 3) := by decide +kernel
theorem dX6_next_47 : decode cX6_next 47 = .ok (.aload_n 0, 1) := by decide +kernel
theorem dX6_next_48 : decode cX6_next 48 = .ok (.getfield 25, 3) := by decide +kernel
theorem dX6_next_51 : decode cX6_next 51 = .ok (.iaload, 1) := by decide +kernel
theorem dX6_next_52 : decode cX6_next 52 = .ok (.invokestatic 52, 3) := by decide +kernel
theorem dX6_next_55 : decode cX6_next 55 = .ok (.ifCond .eq 16, 3) := by decide +kernel
theorem dX6_next_58 : decode cX6_next 58 = .ok (.aload_n 0, 1) := by decide +kernel
theorem dX6_next_59 : decode cX6_next 59 = .ok (.dup, 1) := by decide +kernel
theorem dX6_next_60 : decode cX6_next 60 = .ok (.getfield 25, 3) := by decide +kernel
theorem dX6_next_63 : decode cX6_next 63 = .ok (.iconst 1, 1) := by decide +kernel
theorem dX6_next_64 : decode cX6_next 64 = .ok (.iadd, 1) := by decide +kernel
theorem dX6_next_65 : decode cX6_next 65 = .ok (.putfield 25, 3) := by decide +kernel
theorem dX6_next_68 : decode cX6_next 68 = .ok (.goto (-36), 3) := by decide +kernel
theorem dX6_next_71 : decode cX6_next 71 = .ok (.aload_n 0, 1) := by decide +kernel
theorem dX6_next_72 : decode cX6_next 72 = .ok (.aload_n 0, 1) := by decide +kernel
theorem dX6_next_73 : decode cX6_next 73 = .ok (.getfield 25, 3) := by decide +kernel
theorem dX6_next_76 : decode cX6_next 76 = .ok (.aload_n 0, 1) := by decide +kernel
theorem dX6_next_77 : decode cX6_next 77 = .ok (.getfield 15, 3) := by decide +kernel
theorem dX6_next_80 : decode cX6_next 80 = .ok (.if_icmp .ge 18, 3) := by decide +kernel
theorem dX6_next_83 : decode cX6_next 83 = .ok (.aload_n 0, 1) := by decide +kernel
theorem dX6_next_84 : decode cX6_next 84 = .ok (.getfield 9, 3) := by decide +kernel
theorem dX6_next_87 : decode cX6_next 87 = .ok (.aload_n 0, 1) := by decide +kernel
theorem dX6_next_88 : decode cX6_next 88 = .ok (.getfield 25, 3) := by decide +kernel
theorem dX6_next_91 : decode cX6_next 91 = .ok (.iaload, 1) := by decide +kernel
theorem dX6_next_92 : decode cX6_next 92 = .ok (.invokestatic 56, 3) := by decide +kernel
theorem dX6_next_95 : decode cX6_next 95 = .ok (.goto 4, 3) := by decide +kernel
theorem dX6_next_98 : decode cX6_next 98 = .ok (.iconst 0, 1) := by decide +kernel
theorem dX6_next_99 : decode cX6_next 99 = .ok (.putfield 22, 3) := by decide +kernel
theorem dX6_next_102 : decode cX6_next 102 = .ok (.aload_n 0, 1) := by decide +kernel
theorem dX6_next_103 : decode cX6_next 103 = .ok (.aload_n 0, 1) := by decide +kernel
theorem dX6_next_104 : decode cX6_next 104 = .ok (.getfield 25, 3) := by decide +kernel
theorem dX6_next_107 : decode cX6_next 107 = .ok (.aload_n 0, 1) := by decide +kernel
theorem dX6_next_108 : decode cX6_next 108 = .ok (.getfield 15, 3) := by decide +kernel
theorem dX6_next_111 : decode cX6_next 111 = .ok (.if_icmp .ge 12, 3) := by decide +kernel
theorem dX6_next_114 : decode cX6_next 114 = .ok (.aload_n 0, 1) := by decide +kernel
theorem dX6_next_115 : decode cX6_next 115 = .ok (.getfield 25, 3) := by decide +kernel
theorem dX6_next_118 : decode cX6_next 118 = .ok (.iconst 1, 1) := by decide +kernel
theorem dX6_next_119 : decode cX6_next 119 = .ok (.iadd, 1) := by decide +kernel
theorem dX6_next_120 : decode cX6_next 120 = .ok (.goto 7, 3) := by decide +kernel
theorem dX6_next_123 : decode cX6_next 123 = .ok (.aload_n 0, 1) := by decide +kernel
theorem dX6_next_124 : decode cX6_next 124 = .ok (.getfield 25, 3) := by decide +kernel
theorem dX6_next_127 : decode cX6_next 127 = .ok (.putfield 19, 3) := by decide +kernel
theorem dX6_next_130 : decode cX6_next 130 = .ok (.aload_n 0, 1) := by decide +kernel
theorem dX6_next_131 : decode cX6_next 131 = .ok (.getfield 22, 3) := by decide +kernel
theorem dX6_next_134 : decode cX6_next 134 = .ok (.iconst 1, 1) := by decide +kernel
theorem dX6_next_135 : decode cX6_next 135 = .ok (.if_icmp .eq 11, 3) := by decide +kernel
theorem dX6_next_138 : decode cX6_next 138 = .ok (.aload_n 0, 1) := by decide +kernel
theorem dX6_next_139 : decode cX6_next 139 = .ok (.getfield 22, 3) := by decide +kernel
theorem dX6_next_142 : decode cX6_next 142 = .ok (.iconst 2, 1) := by decide +kernel
theorem dX6_next_143 : decode cX6_next 143 = .ok (.if_icmp .ne 46, 3) := by decide +kernel
theorem dX6_next_146 : decode cX6_next 146 = .ok (.aload_n 0, 1) := by decide +kernel
theorem dX6_next_147 : decode cX6_next 147 = .ok (.getfield 19, 3) := by decide +kernel
theorem dX6_next_150 : decode cX6_next 150 = .ok (.aload_n 0, 1) := by decide +kernel
theorem dX6_next_151 : decode cX6_next 151 = .ok (.getfield 15, 3) := by decide +kernel
theorem dX6_next_154 : decode cX6_next 154 = .ok (.if_icmp .ge 35, 3) := by decide +kernel
theorem dX6_next_157 : decode cX6_next 157 = .ok (.aload_n 0, 1) := by decide +kernel
theorem dX6_next_158 : decode cX6_next 158 = .ok (.getfield 9, 3) := by decide +kernel
theorem dX6_next_161 : decode cX6_next 161 = .ok (.aload_n 0, 1) := by decide +kernel
theorem dX6_next_162 : decode cX6_next 162 = .ok (.getfield 19, 3) := by decide +kernel
theorem dX6_next_165 : decode cX6_next 165 = .ok (.iaload, 1) := by decide +kernel
theorem dX6_next_166 : decode cX6_next 166 = .ok (.invokestatic 56, 3) := by decide +kernel
theorem dX6_next_169 : decode cX6_next 169 = .ok (.aload_n 0, 1) := by decide +kernel
theorem dX6_next_170 : decode cX6_next 170 = .ok (.getfield 22, 3) := by decide +kernel
theorem dX6_next_173 : decode cX6_next 173 = .ok (.if_icmp .ne 16, 3) := by decide +kernel
theorem dX6_next_176 : decode cX6_next 176 = .ok (.aload_n 0, 1) := by decide +kernel
theorem dX6_next_177 : decode cX6_next 177 = .ok (.dup, 1) := by decide +kernel
theorem dX6_next_178 : decode cX6_next 178 = .ok (.getfield 19, 3) := by decide +kernel
theorem dX6_next_181 : decode cX6_next 181 = .ok (.iconst 1, 1) := by decide +kernel
theorem dX6_next_182 : decode cX6_next 182 = .ok (.iadd, 1) := by decide +kernel
theorem dX6_next_183 : decode cX6_next 183 = .ok (.putfield 19, 3) := by decide +kernel
theorem dX6_next_186 : decode cX6_next 186 = .ok (.goto (-56), 3) := by decide +kernel
theorem dX6_next_189 : decode cX6_next 189 = .ok (.aload_n 0, 1) := by decide +kernel
theorem dX6_next_190 : decode cX6_next 190 = .ok (.aload_n 0, 1) := by decide +kernel
theorem dX6_next_191 : decode cX6_next 191 = .ok (.getfield 22, 3) := by decide +kernel
theorem dX6_next_194 : decode cX6_next 194 = .ok (.iconst 1, 1) := by decide +kernel
theorem dX6_next_195 : decode cX6_next 195 = .ok (.if_icmp .ne 10, 3) := by decide +kernel
theorem dX6_next_198 : decode cX6_next 198 = .ok (.aload_n 0, 1) := by decide +kernel
theorem dX6_next_199 : decode cX6_next 199 = .ok (.invokevirtual 60, 3) := by decide +kernel
theorem dX6_next_202 : decode cX6_next 202 = .ok (.goto 4, 3) := by decide +kernel
theorem dX6_next_205 : decode cX6_next 205 = .ok (.iconst (-1), 1) := by decide +kernel
theorem dX6_next_206 : decode cX6_next 206 = .ok (.putfield 28, 3) := by decide +kernel
theorem dX6_next_209 : decode cX6_next 209 = .ok (.aload_n 0, 1) := by decide +kernel
theorem dX6_next_210 : decode cX6_next 210 = .ok (.getfield 22, 3) := by decide +kernel
theorem dX6_next_213 : decode cX6_next 213 = .ok (.tableswitch 65 1 3 #[27, 38, 49], 27) := by decide +kernel
theorem dX6_next_240 : decode cX6_next 240 = .ok (.aload_n 0, 1) := by decide +kernel
theorem dX6_next_241 : decode cX6_next 241 = .ok (.aload_n 0, 1) := by decide +kernel
theorem dX6_next_242 : decode cX6_next 242 = .ok (.invokevirtual 64, 3) := by decide +kernel
theorem dX6_next_245 : decode cX6_next 245 = .ok (.putfield 31, 3) := by decide +kernel
theorem dX6_next_248 : decode cX6_next 248 = .ok (.goto 35, 3) := by decide +kernel
theorem dX6_next_251 : decode cX6_next 251 = .ok (.aload_n 0, 1) := by decide +kernel
theorem dX6_next_252 : decode cX6_next 252 = .ok (.aload_n 0, 1) := by decide +kernel
theorem dX6_next_253 : decode cX6_next 253 = .ok (.invokevirtual 67, 3) := by decide +kernel
theorem dX6_next_256 : decode cX6_next 256 = .ok (.putfield 31, 3) := by decide +kernel
theorem dX6_next_259 : decode cX6_next 259 = .ok (.goto 24, 3) := by decide +kernel
theorem dX6_next_262 : decode cX6_next 262 = .ok (.aload_n 0, 1) := by decide +kernel
theorem dX6_next_263 : decode cX6_next 263 = .ok (.aload_n 0, 1) := by decide +kernel
theorem dX6_next_264 : decode cX6_next 264 = .ok (.getfield 9, 3) := by decide +kernel
theorem dX6_next_267 : decode cX6_next 267 = .ok (.aload_n 0, 1) := by decide +kernel
theorem dX6_next_268 : decode cX6_next 268 = .ok (.getfield 25, 3) := by decide +kernel
theorem dX6_next_271 : decode cX6_next 271 = .ok (.iaload, 1) := by decide +kernel
theorem dX6_next_272 : decode cX6_next 272 = .ok (.putfield 31, 3) := by decide +kernel
theorem dX6_next_275 : decode cX6_next 275 = .ok (.goto 8, 3) := by decide +kernel
theorem dX6_next_278 : decode cX6_next 278 = .ok (.aload_n 0, 1) := by decide +kernel
theorem dX6_next_279 : decode cX6_next 279 = .ok (.iconst 0, 1) := by decide +kernel
theorem dX6_next_280 : decode cX6_next 280 = .ok (.putfield 31, 3) := by decide +kernel
theorem dX6_next_283 : decode cX6_next 283 = .ok (.iload_n 2, 1) := by decide +kernel
theorem dX6_next_284 : decode cX6_next 284 = .ok (.ifCond .eq 32, 3) := by decide +kernel
theorem dX6_next_287 : decode cX6_next 287 = .ok (.aload_n 0, 1) := by decide +kernel
theorem dX6_next_288 : decode cX6_next 288 = .ok (.getfield 25, 3) := by decide +kernel
theorem dX6_next_291 : decode cX6_next 291 = .ok (.iload_n 1, 1) := by decide +kernel
theorem dX6_next_292 : decode cX6_next 292 = .ok (.if_icmp .ne 24, 3) := by decide +kernel
theorem dX6_next_295 : decode cX6_next 295 = .ok (.aload_n 0, 1) := by decide +kernel
theorem dX6_next_296 : decode cX6_next 296 = .ok (.getfield 22, 3) := by decide +kernel
theorem dX6_next_299 : decode cX6_next 299 = .ok (.iconst 1, 1) := by decide +kernel
theorem dX6_next_300 : decode cX6_next 300 = .ok (.if_icmp .eq 11, 3) := by decide +kernel
theorem dX6_next_303 : decode cX6_next 303 = .ok (.aload_n 0, 1) := by decide +kernel
theorem dX6_next_304 : decode cX6_next 304 = .ok (.getfield 22, 3) := by decide +kernel
theorem dX6_next_307 : decode cX6_next 307 = .ok (.iconst 2, 1) := by decide +kernel
theorem dX6_next_308 : decode cX6_next 308 = .ok (.if_icmp .ne 8, 3) := by decide +kernel
theorem dX6_next_311 : decode cX6_next 311 = .ok (.aload_n 0, 1) := by decide +kernel
theorem dX6_next_312 : decode cX6_next 312 = .ok (.iconst 4, 1) := by decide +kernel
theorem dX6_next_313 : decode cX6_next 313 = .ok (.putfield 22, 3) := by decide +kernel
theorem dX6_next_316 : decode cX6_next 316 = .ok (.return_, 1) := by decide +kernel
theorem dX6_letters_0 : decode cX6_letters 0 = .ok (.iconst 0, 1) := by decide +kernel
theorem dX6_letters_1 : decode cX6_letters 1 = .ok (.istore_n 1, 1) := by decide +kernel
theorem dX6_letters_2 : decode cX6_letters 2 = .ok (.iconst 0, 1) := by decide +kernel
theorem dX6_letters_3 : decode cX6_letters 3 = .ok (.istore_n 2, 1) := by decide +kernel
theorem dX6_letters_4 : decode cX6_letters 4 = .ok (.iload_n 2, 1) := by decide +kernel
theorem dX6_letters_5 : decode cX6_letters 5 = .ok (.bipush 6, 2) := by decide +kernel
theorem dX6_letters_7 : decode cX6_letters 7 = .ok (.if_icmp .ge 45, 3) := by decide +kernel
theorem dX6_letters_10 : decode cX6_letters 10 = .ok (.aload_n 0, 1) := by decide +kernel
theorem dX6_letters_11 : decode cX6_letters 11 = .ok (.getfield 25, 3) := by decide +kernel
theorem dX6_letters_14 : decode cX6_letters 14 = .ok (.iload_n 2, 1) := by decide +kernel
theorem dX6_letters_15 : decode cX6_letters 15 = .ok (.iadd, 1) := by decide +kernel
theorem dX6_letters_16 : decode cX6_letters 16 = .ok (.aload_n 0, 1) := by decide +kernel
theorem dX6_letters_17 : decode cX6_letters 17 = .ok (.getfield 19, 3) := by decide +kernel
theorem dX6_letters_20 : decode cX6_letters 20 = .ok (.if_icmp .ge 32, 3) := by decide +kernel
theorem dX6_letters_23 : decode cX6_letters 23 = .ok (.iload_n 1, 1) := by decide +kernel
theorem dX6_letters_24 : decode cX6_letters 24 = .ok (.aload_n 0, 1) := by decide +kernel
theorem dX6_letters_25 : decode cX6_letters 25 = .ok (.getfield 9, 3) := by decide +kernel
theorem dX6_letters_28 : decode cX6_letters 28 = .ok (.aload_n 0, 1) := by decide +kernel
theorem dX6_letters_29 : decode cX6_letters 29 = .ok (.getfield 25, 3) := by decide +kernel
theorem dX6_letters_32 : decode cX6_letters 32 = .ok (.iload_n 2, 1) := by decide +kernel
theorem dX6_letters_33 : decode cX6_letters 33 = .ok (.iadd, 1) := by decide +kernel
theorem dX6_letters_34 : decode cX6_letters 34 = .ok (.iaload, 1) := by decide +kernel
theorem dX6_letters_35 : decode cX6_letters 35 = .ok (.bipush 97, 2) := by decide +kernel
theorem dX6_letters_37 : decode cX6_letters 37 = .ok (.isub, 1) := by decide +kernel
theorem dX6_letters_38 : decode cX6_letters 38 = .ok (.iconst 1, 1) := by decide +kernel
theorem dX6_letters_39 : decode cX6_letters 39 = .ok (.iadd, 1) := by decide +kernel
theorem dX6_letters_40 : decode cX6_letters 40 = .ok (.iconst 5, 1) := by decide +kernel
theorem dX6_letters_41 : decode cX6_letters 41 = .ok (.iload_n 2, 1) := by decide +kernel
theorem dX6_letters_42 : decode cX6_letters 42 = .ok (.imul, 1) := by decide +kernel
theorem dX6_letters_43 : decode cX6_letters 43 = .ok (.ishl, 1) := by decide +kernel
theorem dX6_letters_44 : decode cX6_letters 44 = .ok (.ior, 1) := by decide +kernel
theorem dX6_letters_45 : decode cX6_letters 45 = .ok (.istore_n 1, 1) := by decide +kernel
theorem dX6_letters_46 : decode cX6_letters 46 = .ok (.iinc 2 1, 3) := by decide +kernel
theorem dX6_letters_49 : decode cX6_letters 49 = .ok (.goto (-45), 3) := by decide +kernel
theorem dX6_letters_52 : decode cX6_letters 52 = .ok (.iload_n 1, 1) := by decide +kernel
theorem dX6_letters_53 : decode cX6_letters 53 = .ok (.ireturn, 1) := by decide +kernel
theorem dX6_digits_0 : decode cX6_digits 0 = .ok (.iconst 0, 1) := by decide +kernel
theorem dX6_digits_1 : decode cX6_digits 1 = .ok (.istore_n 1, 1) := by decide +kernel
theorem dX6_digits_2 : decode cX6_digits 2 = .ok (.iconst 0, 1) := by decide +kernel
theorem dX6_digits_3 : decode cX6_digits 3 = .ok (.istore_n 2, 1) := by decide +kernel
theorem dX6_digits_4 : decode cX6_digits 4 = .ok (.iload_n 2, 1) := by decide +kernel
theorem dX6_digits_5 : decode cX6_digits 5 = .ok (.iconst 4, 1) := by decide +kernel
theorem dX6_digits_6 : decode cX6_digits 6 = .ok (.if_icmp .ge 42, 3) := by decide +kernel
theorem dX6_digits_9 : decode cX6_digits 9 = .ok (.aload_n 0, 1) := by decide +kernel
theorem dX6_digits_10 : decode cX6_digits 10 = .ok (.getfield 25, 3) := by decide +kernel
theorem dX6_digits_13 : decode cX6_digits 13 = .ok (.iload_n 2, 1) := by decide +kernel
theorem dX6_digits_14 : decode cX6_digits 14 = .ok (.iadd, 1) := by decide +kernel
theorem dX6_digits_15 : decode cX6_digits 15 = .ok (.aload_n 0, 1) := by decide +kernel
theorem dX6_digits_16 : decode cX6_digits 16 = .ok (.getfield 19, 3) := by decide +kernel
theorem dX6_digits_19 : decode cX6_digits 19 = .ok (.if_icmp .ge 29, 3) := by decide +kernel
theorem dX6_digits_22 : decode cX6_digits 22 = .ok (.bipush 10, 2) := by decide +kernel
theorem dX6_digits_24 : decode cX6_digits 24 = .ok (.iload_n 1, 1) := by decide +kernel
theorem dX6_digits_25 : decode cX6_digits 25 = .ok (.imul, 1) := by decide +kernel
theorem dX6_digits_26 : decode cX6_digits 26 = .ok (.aload_n 0, 1) := by decide +kernel
theorem dX6_digits_27 : decode cX6_digits 27 = .ok (.getfield 9, 3) := by decide +kernel
theorem dX6_digits_30 : decode cX6_digits 30 = .ok (.aload_n 0, 1) := by decide +kernel
theorem dX6_digits_31 : decode cX6_digits 31 = .ok (.getfield 25, 3) := by decide +kernel
theorem dX6_digits_34 : decode cX6_digits 34 = .ok (.iload_n 2, 1) := by decide +kernel
theorem dX6_digits_35 : decode cX6_digits 35 = .ok (.iadd, 1) := by decide +kernel
theorem dX6_digits_36 : decode cX6_digits 36 = .ok (.iaload, 1) := by decide +kernel
theorem dX6_digits_37 : decode cX6_digits 37 = .ok (.iadd, 1) := by decide +kernel
theorem dX6_digits_38 : decode cX6_digits 38 = .ok (.bipush 48, 2) := by decide +kernel
theorem dX6_digits_40 : decode cX6_digits 40 = .ok (.isub, 1) := by decide +kernel
theorem dX6_digits_41 : decode cX6_digits 41 = .ok (.istore_n 1, 1) := by decide +kernel
theorem dX6_digits_42 : decode cX6_digits 42 = .ok (.iinc 2 1, 3) := by decide +kernel
theorem dX6_digits_45 : decode cX6_digits 45 = .ok (.goto (-41), 3) := by decide +kernel
theorem dX6_digits_48 : decode cX6_digits 48 = .ok (.iload_n 1, 1) := by decide +kernel
theorem dX6_digits_49 : decode cX6_digits 49 = .ok (.ireturn, 1) := by decide +kernel
theorem dX6_wordNumber_0 : decode cX6_wordNumber 0 = .ok (.aload_n 0, 1) := by decide +kernel
theorem dX6_wordNumber_1 : decode cX6_wordNumber 1 = .ok (.getfield 19, 3) := by decide +kernel
theorem dX6_wordNumber_4 : decode cX6_wordNumber 4 = .ok (.aload_n 0, 1) := by decide +kernel
theorem dX6_wordNumber_5 : decode cX6_wordNumber 5 = .ok (.getfield 25, 3) := by decide +kernel
theorem dX6_wordNumber_8 : decode cX6_wordNumber 8 = .ok (.isub, 1) := by decide +kernel
theorem dX6_wordNumber_9 : decode cX6_wordNumber 9 = .ok (.istore_n 1, 1) := by decide +kernel
theorem dX6_wordNumber_10 : decode cX6_wordNumber 10 = .ok (.iconst 0, 1) := by decide +kernel
theorem dX6_wordNumber_11 : decode cX6_wordNumber 11 = .ok (.istore_n 2, 1) := by decide +kernel
theorem dX6_wordNumber_12 : decode cX6_wordNumber 12 = .ok (.iload_n 2, 1) := by decide +kernel
theorem dX6_wordNumber_13 : decode cX6_wordNumber 13 = .ok (.bipush 37, 2) := by decide +kernel
theorem dX6_wordNumber_15 : decode cX6_wordNumber 15 = .ok (.if_icmp .ge 157, 3) := by decide +kernel
theorem dX6_wordNumber_18 : decode cX6_wordNumber 18 = .ok (.iload_n 1, 1) := by decide +kernel
theorem dX6_wordNumber_19 : decode cX6_wordNumber 19 = .ok (.bipush 8, 2) := by decide +kernel
theorem dX6_wordNumber_21 : decode cX6_wordNumber 21 = .ok (.if_icmp .ge 151, 3) := by decide +kernel
theorem dX6_wordNumber_24 : decode cX6_wordNumber 24 = .ok (.iload_n 2, 1) := by decide +kernel
theorem dX6_wordNumber_25 : decode cX6_wordNumber 25 = .ok (.bipush 15, 2) := by decide +kernel
theorem dX6_wordNumber_27 : decode cX6_wordNumber 27 = .ok (.if_icmp .ge 8, 3) := by decide +kernel
theorem dX6_wordNumber_30 : decode cX6_wordNumber 30 = .ok (.ldc 70, 2) := by decide +kernel
theorem dX6_wordNumber_32 : decode cX6_wordNumber 32 = .ok (.goto 16, 3) := by decide +kernel
theorem dX6_wordNumber_35 : decode cX6_wordNumber 35 = .ok (.iload_n 2, 1) := by decide +kernel
theorem dX6_wordNumber_36 : decode cX6_wordNumber 36 = .ok (.bipush 29, 2) := by decide +kernel
theorem dX6_wordNumber_38 : decode cX6_wordNumber 38 = .ok (.if_icmp .ge 8, 3) := by decide +kernel
theorem dX6_wordNumber_41 : decode cX6_wordNumber 41 = .ok (.ldc 72, 2) := by decide +kernel
theorem dX6_wordNumber_43 : decode cX6_wordNumber 43 = .ok (.goto 5, 3) := by decide +kernel
theorem dX6_wordNumber_46 : decode cX6_wordNumber 46 = .ok (.ldc 74, 2) := by decide +kernel
theorem dX6_wordNumber_48 : decode cX6_wordNumber 48 = .ok (.astore_n 3, 1) := by decide +kernel
theorem dX6_wordNumber_49 : decode cX6_wordNumber 49 = .ok (.iload_n 2, 1) := by decide +kernel
theorem dX6_wordNumber_50 : decode cX6_wordNumber 50 = .ok (.bipush 15, 2) := by decide +kernel
theorem dX6_wordNumber_52 : decode cX6_wordNumber 52 = .ok (.if_icmp .ge 7, 3) := by decide +kernel
theorem dX6_wordNumber_55 : decode cX6_wordNumber 55 = .ok (.iload_n 2, 1) := by decide +kernel
theorem dX6_wordNumber_56 : decode cX6_wordNumber 56 = .ok (.goto 20, 3) := by decide +kernel
theorem dX6_wordNumber_59 : decode cX6_wordNumber 59 = .ok (.iload_n 2, 1) := by decide +kernel
theorem dX6_wordNumber_60 : decode cX6_wordNumber 60 = .ok (.bipush 29, 2) := by decide +kernel
theorem dX6_wordNumber_62 : decode cX6_wordNumber 62 = .ok (.if_icmp .ge 10, 3) := by decide +kernel
theorem dX6_wordNumber_65 : decode cX6_wordNumber 65 = .ok (.iload_n 2, 1) := by decide +kernel
theorem dX6_wordNumber_66 : decode cX6_wordNumber 66 = .ok (.bipush 15, 2) := by decide +kernel
theorem dX6_wordNumber_68 : decode cX6_wordNumber 68 = .ok (.isub, 1) := by decide +kernel
theorem dX6_wordNumber_69 : decode cX6_wordNumber 69 = .ok (.goto 7, 3) := by decide +kernel
theorem dX6_wordNumber_72 : decode cX6_wordNumber 72 = .ok (.iload_n 2, 1) := by decide +kernel
theorem dX6_wordNumber_73 : decode cX6_wordNumber 73 = .ok (.bipush 29, 2) := by decide +kernel
theorem dX6_wordNumber_75 : decode cX6_wordNumber 75 = .ok (.isub, 1) := by decide +kernel
theorem dX6_wordNumber_76 : decode cX6_wordNumber 76 = .ok (.bipush 8, 2) := by decide +kernel
theorem dX6_wordNumber_78 : decode cX6_wordNumber 78 = .ok (.imul, 1) := by decide +kernel
theorem dX6_wordNumber_79 : decode cX6_wordNumber 79 = .ok (.istore 4, 2) := by decide +kernel
theorem dX6_wordNumber_81 : decode cX6_wordNumber 81 = .ok (.iconst 0, 1) := by decide +kernel
theorem dX6_wordNumber_82 : decode cX6_wordNumber 82 = .ok (.istore 5, 2) := by decide +kernel
theorem dX6_wordNumber_84 : decode cX6_wordNumber 84 = .ok (.iload 5, 2) := by decide +kernel
theorem dX6_wordNumber_86 : decode cX6_wordNumber 86 = .ok (.iload_n 1, 1) := by decide +kernel
theorem dX6_wordNumber_87 : decode cX6_wordNumber 87 = .ok (.if_icmp .ge 45, 3) := by decide +kernel
theorem dX6_wordNumber_90 : decode cX6_wordNumber 90 = .ok (.iload 4, 2) := by decide +kernel
theorem dX6_wordNumber_92 : decode cX6_wordNumber 92 = .ok (.iload 5, 2) := by decide +kernel
theorem dX6_wordNumber_94 : decode cX6_wordNumber 94 = .ok (.iadd, 1) := by decide +kernel
theorem dX6_wordNumber_95 : decode cX6_wordNumber 95 = .ok (.aload_n 3, 1) := by decide +kernel
theorem dX6_wordNumber_96 : decode cX6_wordNumber 96 = .ok (.invokevirtual 76, 3) := by decide +kernel
theorem dX6_wordNumber_99 : decode cX6_wordNumber 99 = .ok (.if_icmp .ge 33, 3) := by decide +kernel
theorem dX6_wordNumber_102 : decode cX6_wordNumber 102 = .ok (.aload_n 3, 1) := by decide +kernel
theorem dX6_wordNumber_103 : decode cX6_wordNumber 103 = .ok (.iload 4, 2) := by decide +kernel
theorem dX6_wordNumber_105 : decode cX6_wordNumber 105 = .ok (.iload 5, 2) := by decide +kernel
theorem dX6_wordNumber_107 : decode cX6_wordNumber 107 = .ok (.iadd, 1) := by decide +kernel
theorem dX6_wordNumber_108 : decode cX6_wordNumber 108 = .ok (.invokevirtual 80, 3) := by decide +kernel
theorem dX6_wordNumber_111 : decode cX6_wordNumber 111 = .ok (.aload_n 0, 1) := by decide +kernel
theorem dX6_wordNumber_112 : decode cX6_wordNumber 112 = .ok (.getfield 9, 3) := by decide +kernel
theorem dX6_wordNumber_115 : decode cX6_wordNumber 115 = .ok (.aload_n 0, 1) := by decide +kernel
theorem dX6_wordNumber_116 : decode cX6_wordNumber 116 = .ok (.getfield 25, 3) := by decide +kernel
theorem dX6_wordNumber_119 : decode cX6_wordNumber 119 = .ok (.iload 5, 2) := by decide +kernel
theorem dX6_wordNumber_121 : decode cX6_wordNumber 121 = .ok (.iadd, 1) := by decide +kernel
theorem dX6_wordNumber_122 : decode cX6_wordNumber 122 = .ok (.iaload, 1) := by decide +kernel
theorem dX6_wordNumber_123 : decode cX6_wordNumber 123 = .ok (.if_icmp .ne 9, 3) := by decide +kernel
theorem dX6_wordNumber_126 : decode cX6_wordNumber 126 = .ok (.iinc 5 1, 3) := by decide +kernel
theorem dX6_wordNumber_129 : decode cX6_wordNumber 129 = .ok (.goto (-45), 3) := by decide +kernel
theorem dX6_wordNumber_132 : decode cX6_wordNumber 132 = .ok (.iload 5, 2) := by decide +kernel
theorem dX6_wordNumber_134 : decode cX6_wordNumber 134 = .ok (.iload_n 1, 1) := by decide +kernel
theorem dX6_wordNumber_135 : decode cX6_wordNumber 135 = .ok (.if_icmp .ne 31, 3) := by decide +kernel
theorem dX6_wordNumber_138 : decode cX6_wordNumber 138 = .ok (.iload 4, 2) := by decide +kernel
theorem dX6_wordNumber_140 : decode cX6_wordNumber 140 = .ok (.iload 5, 2) := by decide +kernel
theorem dX6_wordNumber_142 : decode cX6_wordNumber 142 = .ok (.iadd, 1) := by decide +kernel
theorem dX6_wordNumber_143 : decode cX6_wordNumber 143 = .ok (.aload_n 3, 1) := by decide +kernel
theorem dX6_wordNumber_144 : decode cX6_wordNumber 144 = .ok (.invokevirtual 76, 3) := by decide +kernel
theorem dX6_wordNumber_147 : decode cX6_wordNumber 147 = .ok (.if_icmp .ge 19, 3) := by decide +kernel
theorem dX6_wordNumber_150 : decode cX6_wordNumber 150 = .ok (.aload_n 3, 1) := by decide +kernel
theorem dX6_wordNumber_151 : decode cX6_wordNumber 151 = .ok (.iload 4, 2) := by decide +kernel
theorem dX6_wordNumber_153 : decode cX6_wordNumber 153 = .ok (.iload 5, 2) := by decide +kernel
theorem dX6_wordNumber_155 : decode cX6_wordNumber 155 = .ok (.iadd, 1) := by decide +kernel
theorem dX6_wordNumber_156 : decode cX6_wordNumber 156 = .ok (.invokevirtual 80, 3) := by decide +kernel
theorem dX6_wordNumber_159 : decode cX6_wordNumber 159 = .ok (.bipush 32, 2) := by decide +kernel
theorem dX6_wordNumber_161 : decode cX6_wordNumber 161 = .ok (.if_icmp .ne 5, 3) := by decide +kernel
theorem dX6_wordNumber_164 : decode cX6_wordNumber 164 = .ok (.iload_n 2, 1) := by decide +kernel
theorem dX6_wordNumber_165 : decode cX6_wordNumber 165 = .ok (.ireturn, 1) := by decide +kernel
theorem dX6_wordNumber_166 : decode cX6_wordNumber 166 = .ok (.iinc 2 1, 3) := by decide +kernel
theorem dX6_wordNumber_169 : decode cX6_wordNumber 169 = .ok (.goto (-157), 3) := by decide +kernel
theorem dX6_wordNumber_172 : decode cX6_wordNumber 172 = .ok (.iconst (-1), 1) := by decide +kernel
theorem dX6_wordNumber_173 : decode cX6_wordNumber 173 = .ok (.ireturn, 1) := by decide +kernel
theorem dX6_isBlank_0 : decode cX6_isBlank 0 = .ok (.iload_n 0, 1) := by decide +kernel
theorem dX6_isBlank_1 : decode cX6_isBlank 1 = .ok (.bipush 10, 2) := by decide +kernel
theorem dX6_isBlank_3 : decode cX6_isBlank 3 = .ok (.if_icmp .eq 9, 3) := by decide +kernel
theorem dX6_isBlank_6 : decode cX6_isBlank 6 = .ok (.iload_n 0, 1) := by decide +kernel
theorem dX6_isBlank_7 : decode cX6_isBlank 7 = .ok (.bipush 32, 2) := by decide +kernel
theorem dX6_isBlank_9 : decode cX6_isBlank 9 = .ok (.if_icmp .ne 7, 3) := by decide +kernel
theorem dX6_isBlank_12 : decode cX6_isBlank 12 = .ok (.iconst 1, 1) := by decide +kernel
theorem dX6_isBlank_13 : decode cX6_isBlank 13 = .ok (.goto 4, 3) := by decide +kernel
theorem dX6_isBlank_16 : decode cX6_isBlank 16 = .ok (.iconst 0, 1) := by decide +kernel
theorem dX6_isBlank_17 : decode cX6_isBlank 17 = .ok (.ireturn, 1) := by decide +kernel
theorem dX6_sortOf_0 : decode cX6_sortOf 0 = .ok (.iload_n 0, 1) := by decide +kernel
theorem dX6_sortOf_1 : decode cX6_sortOf 1 = .ok (.bipush 97, 2) := by decide +kernel
theorem dX6_sortOf_3 : decode cX6_sortOf 3 = .ok (.if_icmp .lt 11, 3) := by decide +kernel
theorem dX6_sortOf_6 : decode cX6_sortOf 6 = .ok (.iload_n 0, 1) := by decide +kernel
theorem dX6_sortOf_7 : decode cX6_sortOf 7 = .ok (.bipush 122, 2) := by decide +kernel
theorem dX6_sortOf_9 : decode cX6_sortOf 9 = .ok (.if_icmp .gt 5, 3) := by decide +kernel
theorem dX6_sortOf_12 : decode cX6_sortOf 12 = .ok (.iconst 1, 1) := by decide +kernel
theorem dX6_sortOf_13 : decode cX6_sortOf 13 = .ok (.ireturn, 1) := by decide +kernel
theorem dX6_sortOf_14 : decode cX6_sortOf 14 = .ok (.iload_n 0, 1) := by decide +kernel
theorem dX6_sortOf_15 : decode cX6_sortOf 15 = .ok (.bipush 48, 2) := by decide +kernel
theorem dX6_sortOf_17 : decode cX6_sortOf 17 = .ok (.if_icmp .lt 13, 3) := by decide +kernel
theorem dX6_sortOf_20 : decode cX6_sortOf 20 = .ok (.iload_n 0, 1) := by decide +kernel
theorem dX6_sortOf_21 : decode cX6_sortOf 21 = .ok (.bipush 57, 2) := by decide +kernel
theorem dX6_sortOf_23 : decode cX6_sortOf 23 = .ok (.if_icmp .gt 7, 3) := by decide +kernel
theorem dX6_sortOf_26 : decode cX6_sortOf 26 = .ok (.iconst 2, 1) := by decide +kernel
theorem dX6_sortOf_27 : decode cX6_sortOf 27 = .ok (.goto 4, 3) := by decide +kernel
theorem dX6_sortOf_30 : decode cX6_sortOf 30 = .ok (.iconst 3, 1) := by decide +kernel
theorem dX6_sortOf_31 : decode cX6_sortOf 31 = .ok (.ireturn, 1) := by decide +kernel
theorem dX6_size_0 : decode cX6_size 0 = .ok (.aload_n 0, 1) := by decide +kernel
theorem dX6_size_1 : decode cX6_size 1 = .ok (.getfield 19, 3) := by decide +kernel
theorem dX6_size_4 : decode cX6_size 4 = .ok (.aload_n 0, 1) := by decide +kernel
theorem dX6_size_5 : decode cX6_size 5 = .ok (.getfield 25, 3) := by decide +kernel
theorem dX6_size_8 : decode cX6_size 8 = .ok (.isub, 1) := by decide +kernel
theorem dX6_size_9 : decode cX6_size 9 = .ok (.ireturn, 1) := by decide +kernel
theorem dX6_isWord_0 : decode cX6_isWord 0 = .ok (.aload_n 0, 1) := by decide +kernel
theorem dX6_isWord_1 : decode cX6_isWord 1 = .ok (.getfield 22, 3) := by decide +kernel
theorem dX6_isWord_4 : decode cX6_isWord 4 = .ok (.iconst 1, 1) := by decide +kernel
theorem dX6_isWord_5 : decode cX6_isWord 5 = .ok (.if_icmp .ne 15, 3) := by decide +kernel
theorem dX6_isWord_8 : decode cX6_isWord 8 = .ok (.aload_n 0, 1) := by decide +kernel
theorem dX6_isWord_9 : decode cX6_isWord 9 = .ok (.getfield 28, 3) := by decide +kernel
theorem dX6_isWord_12 : decode cX6_isWord 12 = .ok (.iload_n 1, 1) := by decide +kernel
theorem dX6_isWord_13 : decode cX6_isWord 13 = .ok (.if_icmp .ne 7, 3) := by decide +kernel
theorem dX6_isWord_16 : decode cX6_isWord 16 = .ok (.iconst 1, 1) := by decide +kernel
theorem dX6_isWord_17 : decode cX6_isWord 17 = .ok (.goto 4, 3) := by decide +kernel
theorem dX6_isWord_20 : decode cX6_isWord 20 = .ok (.iconst 0, 1) := by decide +kernel
theorem dX6_isWord_21 : decode cX6_isWord 21 = .ok (.ireturn, 1) := by decide +kernel
theorem dX6_isSign_0 : decode cX6_isSign 0 = .ok (.aload_n 0, 1) := by decide +kernel
theorem dX6_isSign_1 : decode cX6_isSign 1 = .ok (.getfield 22, 3) := by decide +kernel
theorem dX6_isSign_4 : decode cX6_isSign 4 = .ok (.iconst 3, 1) := by decide +kernel
theorem dX6_isSign_5 : decode cX6_isSign 5 = .ok (.if_icmp .ne 15, 3) := by decide +kernel
theorem dX6_isSign_8 : decode cX6_isSign 8 = .ok (.aload_n 0, 1) := by decide +kernel
theorem dX6_isSign_9 : decode cX6_isSign 9 = .ok (.getfield 31, 3) := by decide +kernel
theorem dX6_isSign_12 : decode cX6_isSign 12 = .ok (.iload_n 1, 1) := by decide +kernel
theorem dX6_isSign_13 : decode cX6_isSign 13 = .ok (.if_icmp .ne 7, 3) := by decide +kernel
theorem dX6_isSign_16 : decode cX6_isSign 16 = .ok (.iconst 1, 1) := by decide +kernel
theorem dX6_isSign_17 : decode cX6_isSign 17 = .ok (.goto 4, 3) := by decide +kernel
theorem dX6_isSign_20 : decode cX6_isSign 20 = .ok (.iconst 0, 1) := by decide +kernel
theorem dX6_isSign_21 : decode cX6_isSign 21 = .ok (.ireturn, 1) := by decide +kernel
theorem dX6_wrong_0 : decode cX6_wrong 0 = .ok (.aload_n 0, 1) := by decide +kernel
theorem dX6_wrong_1 : decode cX6_wrong 1 = .ok (.iload_n 1, 1) := by decide +kernel
theorem dX6_wrong_2 : decode cX6_wrong 2 = .ok (.putfield 34, 3) := by decide +kernel
theorem dX6_wrong_5 : decode cX6_wrong 5 = .ok (.aload_n 0, 1) := by decide +kernel
theorem dX6_wrong_6 : decode cX6_wrong 6 = .ok (.iload_n 2, 1) := by decide +kernel
theorem dX6_wrong_7 : decode cX6_wrong 7 = .ok (.putfield 37, 3) := by decide +kernel
theorem dX6_wrong_10 : decode cX6_wrong 10 = .ok (.iconst 0, 1) := by decide +kernel
theorem dX6_wrong_11 : decode cX6_wrong 11 = .ok (.ireturn, 1) := by decide +kernel
theorem dX6_takeWord_0 : decode cX6_takeWord 0 = .ok (.aload_n 0, 1) := by decide +kernel
theorem dX6_takeWord_1 : decode cX6_takeWord 1 = .ok (.iload_n 1, 1) := by decide +kernel
theorem dX6_takeWord_2 : decode cX6_takeWord 2 = .ok (.invokevirtual 84, 3) := by decide +kernel
theorem dX6_takeWord_5 : decode cX6_takeWord 5 = .ok (.ifCond .ne 13, 3) := by decide +kernel
theorem dX6_takeWord_8 : decode cX6_takeWord 8 = .ok (.aload_n 0, 1) := by decide +kernel
theorem dX6_takeWord_9 : decode cX6_takeWord 9 = .ok (.iconst 1, 1) := by decide +kernel
theorem dX6_takeWord_10 : decode cX6_takeWord 10 = .ok (.aload_n 0, 1) := by decide +kernel
theorem dX6_takeWord_11 : decode cX6_takeWord 11 = .ok (.getfield 25, 3) := by decide +kernel
theorem dX6_takeWord_14 : decode cX6_takeWord 14 = .ok (.invokevirtual 87, 3) := by decide +kernel
theorem dX6_takeWord_17 : decode cX6_takeWord 17 = .ok (.ireturn, 1) := by decide +kernel
theorem dX6_takeWord_18 : decode cX6_takeWord 18 = .ok (.aload_n 0, 1) := by decide +kernel
theorem dX6_takeWord_19 : decode cX6_takeWord 19 = .ok (.invokevirtual 49, 3) := by decide +kernel
theorem dX6_takeWord_22 : decode cX6_takeWord 22 = .ok (.iconst 1, 1) := by decide +kernel
theorem dX6_takeWord_23 : decode cX6_takeWord 23 = .ok (.ireturn, 1) := by decide +kernel
theorem dX6_takeSign_0 : decode cX6_takeSign 0 = .ok (.aload_n 0, 1) := by decide +kernel
theorem dX6_takeSign_1 : decode cX6_takeSign 1 = .ok (.iload_n 1, 1) := by decide +kernel
theorem dX6_takeSign_2 : decode cX6_takeSign 2 = .ok (.invokevirtual 91, 3) := by decide +kernel
theorem dX6_takeSign_5 : decode cX6_takeSign 5 = .ok (.ifCond .ne 13, 3) := by decide +kernel
theorem dX6_takeSign_8 : decode cX6_takeSign 8 = .ok (.aload_n 0, 1) := by decide +kernel
theorem dX6_takeSign_9 : decode cX6_takeSign 9 = .ok (.iconst 1, 1) := by decide +kernel
theorem dX6_takeSign_10 : decode cX6_takeSign 10 = .ok (.aload_n 0, 1) := by decide +kernel
theorem dX6_takeSign_11 : decode cX6_takeSign 11 = .ok (.getfield 25, 3) := by decide +kernel
theorem dX6_takeSign_14 : decode cX6_takeSign 14 = .ok (.invokevirtual 87, 3) := by decide +kernel
theorem dX6_takeSign_17 : decode cX6_takeSign 17 = .ok (.ireturn, 1) := by decide +kernel
theorem dX6_takeSign_18 : decode cX6_takeSign 18 = .ok (.aload_n 0, 1) := by decide +kernel
theorem dX6_takeSign_19 : decode cX6_takeSign 19 = .ok (.invokevirtual 49, 3) := by decide +kernel
theorem dX6_takeSign_22 : decode cX6_takeSign 22 = .ok (.iconst 1, 1) := by decide +kernel
theorem dX6_takeSign_23 : decode cX6_takeSign 23 = .ok (.ireturn, 1) := by decide +kernel
theorem dX6_checkNumber_0 : decode cX6_checkNumber 0 = .ok (.aload_n 0, 1) := by decide +kernel
theorem dX6_checkNumber_1 : decode cX6_checkNumber 1 = .ok (.getfield 22, 3) := by decide +kernel
theorem dX6_checkNumber_4 : decode cX6_checkNumber 4 = .ok (.iconst 2, 1) := by decide +kernel
theorem dX6_checkNumber_5 : decode cX6_checkNumber 5 = .ok (.if_icmp .eq 13, 3) := by decide +kernel
theorem dX6_checkNumber_8 : decode cX6_checkNumber 8 = .ok (.aload_n 0, 1) := by decide +kernel
theorem dX6_checkNumber_9 : decode cX6_checkNumber 9 = .ok (.iconst 1, 1) := by decide +kernel
theorem dX6_checkNumber_10 : decode cX6_checkNumber 10 = .ok (.aload_n 0, 1) := by decide +kernel
theorem dX6_checkNumber_11 : decode cX6_checkNumber 11 = .ok (.getfield 25, 3) := by decide +kernel
theorem dX6_checkNumber_14 : decode cX6_checkNumber 14 = .ok (.invokevirtual 87, 3) := by decide +kernel
theorem dX6_checkNumber_17 : decode cX6_checkNumber 17 = .ok (.ireturn, 1) := by decide +kernel
theorem dX6_checkNumber_18 : decode cX6_checkNumber 18 = .ok (.aload_n 0, 1) := by decide +kernel
theorem dX6_checkNumber_19 : decode cX6_checkNumber 19 = .ok (.invokevirtual 94, 3) := by decide +kernel
theorem dX6_checkNumber_22 : decode cX6_checkNumber 22 = .ok (.iconst 4, 1) := by decide +kernel
theorem dX6_checkNumber_23 : decode cX6_checkNumber 23 = .ok (.if_icmp .le 17, 3) := by decide +kernel
theorem dX6_checkNumber_26 : decode cX6_checkNumber 26 = .ok (.aload_n 0, 1) := by decide +kernel
theorem dX6_checkNumber_27 : decode cX6_checkNumber 27 = .ok (.iconst 1, 1) := by decide +kernel
theorem dX6_checkNumber_28 : decode cX6_checkNumber 28 = .ok (.aload_n 0, 1) := by decide +kernel
theorem dX6_checkNumber_29 : decode cX6_checkNumber 29 = .ok (.getfield 25, 3) := by decide +kernel
theorem dX6_checkNumber_32 : decode cX6_checkNumber 32 = .ok (.iconst 4, 1) := by decide +kernel
theorem dX6_checkNumber_33 : decode cX6_checkNumber 33 = .ok (.iadd, 1) := by decide +kernel
theorem dX6_checkNumber_34 : decode cX6_checkNumber 34 = .ok (.invokevirtual 87, 3) := by decide +kernel
theorem dX6_checkNumber_37 : decode cX6_checkNumber 37 = .ok (.ifCond .eq 7, 3) := by decide +kernel
theorem dX6_checkNumber_40 : decode cX6_checkNumber 40 = .ok (.iconst 1, 1) := by decide +kernel
theorem dX6_checkNumber_41 : decode cX6_checkNumber 41 = .ok (.goto 4, 3) := by decide +kernel
theorem dX6_checkNumber_44 : decode cX6_checkNumber 44 = .ok (.iconst 0, 1) := by decide +kernel
theorem dX6_checkNumber_45 : decode cX6_checkNumber 45 = .ok (.ireturn, 1) := by decide +kernel
theorem dX6_takeNumber_0 : decode cX6_takeNumber 0 = .ok (.aload_n 0, 1) := by decide +kernel
theorem dX6_takeNumber_1 : decode cX6_takeNumber 1 = .ok (.invokevirtual 97, 3) := by decide +kernel
theorem dX6_takeNumber_4 : decode cX6_takeNumber 4 = .ok (.ifCond .ne 5, 3) := by decide +kernel
theorem dX6_takeNumber_7 : decode cX6_takeNumber 7 = .ok (.iconst (-1), 1) := by decide +kernel
theorem dX6_takeNumber_8 : decode cX6_takeNumber 8 = .ok (.ireturn, 1) := by decide +kernel
theorem dX6_takeNumber_9 : decode cX6_takeNumber 9 = .ok (.aload_n 0, 1) := by decide +kernel
theorem dX6_takeNumber_10 : decode cX6_takeNumber 10 = .ok (.getfield 31, 3) := by decide +kernel
theorem dX6_takeNumber_13 : decode cX6_takeNumber 13 = .ok (.istore_n 2, 1) := by decide +kernel
theorem dX6_takeNumber_14 : decode cX6_takeNumber 14 = .ok (.iload_n 2, 1) := by decide +kernel
theorem dX6_takeNumber_15 : decode cX6_takeNumber 15 = .ok (.iload_n 1, 1) := by decide +kernel
theorem dX6_takeNumber_16 : decode cX6_takeNumber 16 = .ok (.if_icmp .le 15, 3) := by decide +kernel
theorem dX6_takeNumber_19 : decode cX6_takeNumber 19 = .ok (.aload_n 0, 1) := by decide +kernel
theorem dX6_takeNumber_20 : decode cX6_takeNumber 20 = .ok (.iconst 2, 1) := by decide +kernel
theorem dX6_takeNumber_21 : decode cX6_takeNumber 21 = .ok (.aload_n 0, 1) := by decide +kernel
theorem dX6_takeNumber_22 : decode cX6_takeNumber 22 = .ok (.getfield 25, 3) := by decide +kernel
theorem dX6_takeNumber_25 : decode cX6_takeNumber 25 = .ok (.invokevirtual 87, 3) := by decide +kernel
theorem dX6_takeNumber_28 : decode cX6_takeNumber 28 = .ok (.pop, 1) := by decide +kernel
theorem dX6_takeNumber_29 : decode cX6_takeNumber 29 = .ok (.iconst (-1), 1) := by decide +kernel
theorem dX6_takeNumber_30 : decode cX6_takeNumber 30 = .ok (.ireturn, 1) := by decide +kernel
theorem dX6_takeNumber_31 : decode cX6_takeNumber 31 = .ok (.aload_n 0, 1) := by decide +kernel
theorem dX6_takeNumber_32 : decode cX6_takeNumber 32 = .ok (.invokevirtual 49, 3) := by decide +kernel
theorem dX6_takeNumber_35 : decode cX6_takeNumber 35 = .ok (.iload_n 2, 1) := by decide +kernel
theorem dX6_takeNumber_36 : decode cX6_takeNumber 36 = .ok (.ireturn, 1) := by decide +kernel
theorem dX6_checkName_0 : decode cX6_checkName 0 = .ok (.aload_n 0, 1) := by decide +kernel
theorem dX6_checkName_1 : decode cX6_checkName 1 = .ok (.getfield 22, 3) := by decide +kernel
theorem dX6_checkName_4 : decode cX6_checkName 4 = .ok (.iconst 1, 1) := by decide +kernel
theorem dX6_checkName_5 : decode cX6_checkName 5 = .ok (.if_icmp .ne 20, 3) := by decide +kernel
theorem dX6_checkName_8 : decode cX6_checkName 8 = .ok (.aload_n 0, 1) := by decide +kernel
theorem dX6_checkName_9 : decode cX6_checkName 9 = .ok (.getfield 28, 3) := by decide +kernel
theorem dX6_checkName_12 : decode cX6_checkName 12 = .ok (.iconst (-1), 1) := by decide +kernel
theorem dX6_checkName_13 : decode cX6_checkName 13 = .ok (.if_icmp .eq 22, 3) := by decide +kernel
theorem dX6_checkName_16 : decode cX6_checkName 16 = .ok (.aload_n 0, 1) := by decide +kernel
theorem dX6_checkName_17 : decode cX6_checkName 17 = .ok (.getfield 28, 3) := by decide +kernel
theorem dX6_checkName_20 : decode cX6_checkName 20 = .ok (.bipush 29, 2) := by decide +kernel
theorem dX6_checkName_22 : decode cX6_checkName 22 = .ok (.if_icmp .ge 13, 3) := by decide +kernel
theorem dX6_checkName_25 : decode cX6_checkName 25 = .ok (.aload_n 0, 1) := by decide +kernel
theorem dX6_checkName_26 : decode cX6_checkName 26 = .ok (.iconst 1, 1) := by decide +kernel
theorem dX6_checkName_27 : decode cX6_checkName 27 = .ok (.aload_n 0, 1) := by decide +kernel
theorem dX6_checkName_28 : decode cX6_checkName 28 = .ok (.getfield 25, 3) := by decide +kernel
theorem dX6_checkName_31 : decode cX6_checkName 31 = .ok (.invokevirtual 87, 3) := by decide +kernel
theorem dX6_checkName_34 : decode cX6_checkName 34 = .ok (.ireturn, 1) := by decide +kernel
theorem dX6_checkName_35 : decode cX6_checkName 35 = .ok (.aload_n 0, 1) := by decide +kernel
theorem dX6_checkName_36 : decode cX6_checkName 36 = .ok (.invokevirtual 94, 3) := by decide +kernel
theorem dX6_checkName_39 : decode cX6_checkName 39 = .ok (.bipush 6, 2) := by decide +kernel
theorem dX6_checkName_41 : decode cX6_checkName 41 = .ok (.if_icmp .le 18, 3) := by decide +kernel
theorem dX6_checkName_44 : decode cX6_checkName 44 = .ok (.aload_n 0, 1) := by decide +kernel
theorem dX6_checkName_45 : decode cX6_checkName 45 = .ok (.iconst 1, 1) := by decide +kernel
theorem dX6_checkName_46 : decode cX6_checkName 46 = .ok (.aload_n 0, 1) := by decide +kernel
theorem dX6_checkName_47 : decode cX6_checkName 47 = .ok (.getfield 25, 3) := by decide +kernel
theorem dX6_checkName_50 : decode cX6_checkName 50 = .ok (.bipush 6, 2) := by decide +kernel
theorem dX6_checkName_52 : decode cX6_checkName 52 = .ok (.iadd, 1) := by decide +kernel
theorem dX6_checkName_53 : decode cX6_checkName 53 = .ok (.invokevirtual 87, 3) := by decide +kernel
theorem dX6_checkName_56 : decode cX6_checkName 56 = .ok (.ifCond .eq 7, 3) := by decide +kernel
theorem dX6_checkName_59 : decode cX6_checkName 59 = .ok (.iconst 1, 1) := by decide +kernel
theorem dX6_checkName_60 : decode cX6_checkName 60 = .ok (.goto 4, 3) := by decide +kernel
theorem dX6_checkName_63 : decode cX6_checkName 63 = .ok (.iconst 0, 1) := by decide +kernel
theorem dX6_checkName_64 : decode cX6_checkName 64 = .ok (.ireturn, 1) := by decide +kernel
theorem dX7_init_0 : decode cX7_init 0 = .ok (.aload_n 0, 1) := by decide +kernel
theorem dX7_init_1 : decode cX7_init 1 = .ok (.invokespecial 3, 3) := by decide +kernel
theorem dX7_init_4 : decode cX7_init 4 = .ok (.aload_n 0, 1) := by decide +kernel
theorem dX7_init_5 : decode cX7_init 5 = .ok (.bipush 32, 2) := by decide +kernel
theorem dX7_init_7 : decode cX7_init 7 = .ok (.newarray .int, 2) := by decide +kernel
theorem dX7_init_9 : decode cX7_init 9 = .ok (.putfield 9, 3) := by decide +kernel
theorem dX7_init_12 : decode cX7_init 12 = .ok (.aload_n 0, 1) := by decide +kernel
theorem dX7_init_13 : decode cX7_init 13 = .ok (.bipush 32, 2) := by decide +kernel
theorem dX7_init_15 : decode cX7_init 15 = .ok (.newarray .int, 2) := by decide +kernel
theorem dX7_init_17 : decode cX7_init 17 = .ok (.putfield 15, 3) := by decide +kernel
theorem dX7_init_20 : decode cX7_init 20 = .ok (.aload_n 0, 1) := by decide +kernel
theorem dX7_init_21 : decode cX7_init 21 = .ok (.getstatic 18, 3) := by decide +kernel
theorem dX7_init_24 : decode cX7_init 24 = .ok (.iconst 2, 1) := by decide +kernel
theorem dX7_init_25 : decode cX7_init 25 = .ok (.iaload, 1) := by decide +kernel
theorem dX7_init_26 : decode cX7_init 26 = .ok (.iconst 4, 1) := by decide +kernel
theorem dX7_init_27 : decode cX7_init 27 = .ok (.imul, 1) := by decide +kernel
theorem dX7_init_28 : decode cX7_init 28 = .ok (.newarray .int, 2) := by decide +kernel
theorem dX7_init_30 : decode cX7_init 30 = .ok (.putfield 21, 3) := by decide +kernel
theorem dX7_init_33 : decode cX7_init 33 = .ok (.aload_n 0, 1) := by decide +kernel
theorem dX7_init_34 : decode cX7_init 34 = .ok (.getstatic 18, 3) := by decide +kernel
theorem dX7_init_37 : decode cX7_init 37 = .ok (.iconst 2, 1) := by decide +kernel
theorem dX7_init_38 : decode cX7_init 38 = .ok (.iaload, 1) := by decide +kernel
theorem dX7_init_39 : decode cX7_init 39 = .ok (.newarray .int, 2) := by decide +kernel
theorem dX7_init_41 : decode cX7_init 41 = .ok (.putfield 24, 3) := by decide +kernel
theorem dX7_init_44 : decode cX7_init 44 = .ok (.return_, 1) := by decide +kernel
theorem dX7_begin_0 : decode cX7_begin 0 = .ok (.aload_n 0, 1) := by decide +kernel
theorem dX7_begin_1 : decode cX7_begin 1 = .ok (.iconst 0, 1) := by decide +kernel
theorem dX7_begin_2 : decode cX7_begin 2 = .ok (.putfield 27, 3) := by decide +kernel
theorem dX7_begin_5 : decode cX7_begin 5 = .ok (.aload_n 1, 1) := by decide +kernel
theorem dX7_begin_6 : decode cX7_begin 6 = .ok (.getfield 31, 3) := by decide +kernel
theorem dX7_begin_9 : decode cX7_begin 9 = .ok (.aload_n 0, 1) := by decide +kernel
theorem dX7_begin_10 : decode cX7_begin 10 = .ok (.getfield 9, 3) := by decide +kernel
theorem dX7_begin_13 : decode cX7_begin 13 = .ok (.invokestatic 34, 3) := by decide +kernel
theorem dX7_begin_16 : decode cX7_begin 16 = .ok (.aload_n 1, 1) := by decide +kernel
theorem dX7_begin_17 : decode cX7_begin 17 = .ok (.getfield 31, 3) := by decide +kernel
theorem dX7_begin_20 : decode cX7_begin 20 = .ok (.aload_n 0, 1) := by decide +kernel
theorem dX7_begin_21 : decode cX7_begin 21 = .ok (.getfield 15, 3) := by decide +kernel
theorem dX7_begin_24 : decode cX7_begin 24 = .ok (.invokestatic 34, 3) := by decide +kernel
theorem dX7_begin_27 : decode cX7_begin 27 = .ok (.aload_n 0, 1) := by decide +kernel
theorem dX7_begin_28 : decode cX7_begin 28 = .ok (.getfield 21, 3) := by decide +kernel
theorem dX7_begin_31 : decode cX7_begin 31 = .ok (.iconst 0, 1) := by decide +kernel
theorem dX7_begin_32 : decode cX7_begin 32 = .ok (.invokestatic 38, 3) := by decide +kernel
theorem dX7_begin_35 : decode cX7_begin 35 = .ok (.aload_n 1, 1) := by decide +kernel
theorem dX7_begin_36 : decode cX7_begin 36 = .ok (.getfield 44, 3) := by decide +kernel
theorem dX7_begin_39 : decode cX7_begin 39 = .ok (.aload_n 0, 1) := by decide +kernel
theorem dX7_begin_40 : decode cX7_begin 40 = .ok (.getfield 24, 3) := by decide +kernel
theorem dX7_begin_43 : decode cX7_begin 43 = .ok (.invokestatic 34, 3) := by decide +kernel
theorem dX7_begin_46 : decode cX7_begin 46 = .ok (.return_, 1) := by decide +kernel
theorem dX7_takeOver_0 : decode cX7_takeOver 0 = .ok (.aload_n 0, 1) := by decide +kernel
theorem dX7_takeOver_1 : decode cX7_takeOver 1 = .ok (.aload_n 1, 1) := by decide +kernel
theorem dX7_takeOver_2 : decode cX7_takeOver 2 = .ok (.getfield 27, 3) := by decide +kernel
theorem dX7_takeOver_5 : decode cX7_takeOver 5 = .ok (.putfield 27, 3) := by decide +kernel
theorem dX7_takeOver_8 : decode cX7_takeOver 8 = .ok (.aload_n 1, 1) := by decide +kernel
theorem dX7_takeOver_9 : decode cX7_takeOver 9 = .ok (.getfield 9, 3) := by decide +kernel
theorem dX7_takeOver_12 : decode cX7_takeOver 12 = .ok (.aload_n 0, 1) := by decide +kernel
theorem dX7_takeOver_13 : decode cX7_takeOver 13 = .ok (.getfield 9, 3) := by decide +kernel
theorem dX7_takeOver_16 : decode cX7_takeOver 16 = .ok (.invokestatic 34, 3) := by decide +kernel
theorem dX7_takeOver_19 : decode cX7_takeOver 19 = .ok (.aload_n 1, 1) := by decide +kernel
theorem dX7_takeOver_20 : decode cX7_takeOver 20 = .ok (.getfield 15, 3) := by decide +kernel
theorem dX7_takeOver_23 : decode cX7_takeOver 23 = .ok (.aload_n 0, 1) := by decide +kernel
theorem dX7_takeOver_24 : decode cX7_takeOver 24 = .ok (.getfield 15, 3) := by decide +kernel
theorem dX7_takeOver_27 : decode cX7_takeOver 27 = .ok (.invokestatic 34, 3) := by decide +kernel
theorem dX7_takeOver_30 : decode cX7_takeOver 30 = .ok (.aload_n 1, 1) := by decide +kernel
theorem dX7_takeOver_31 : decode cX7_takeOver 31 = .ok (.getfield 21, 3) := by decide +kernel
theorem dX7_takeOver_34 : decode cX7_takeOver 34 = .ok (.aload_n 0, 1) := by decide +kernel
theorem dX7_takeOver_35 : decode cX7_takeOver 35 = .ok (.getfield 21, 3) := by decide +kernel
theorem dX7_takeOver_38 : decode cX7_takeOver 38 = .ok (.invokestatic 34, 3) := by decide +kernel
theorem dX7_takeOver_41 : decode cX7_takeOver 41 = .ok (.aload_n 1, 1) := by decide +kernel
theorem dX7_takeOver_42 : decode cX7_takeOver 42 = .ok (.getfield 24, 3) := by decide +kernel
theorem dX7_takeOver_45 : decode cX7_takeOver 45 = .ok (.aload_n 0, 1) := by decide +kernel
theorem dX7_takeOver_46 : decode cX7_takeOver 46 = .ok (.getfield 24, 3) := by decide +kernel
theorem dX7_takeOver_49 : decode cX7_takeOver 49 = .ok (.invokestatic 34, 3) := by decide +kernel
theorem dX7_takeOver_52 : decode cX7_takeOver 52 = .ok (.return_, 1) := by decide +kernel
theorem dX7_isLike_0 : decode cX7_isLike 0 = .ok (.aload_n 0, 1) := by decide +kernel
theorem dX7_isLike_1 : decode cX7_isLike 1 = .ok (.getfield 9, 3) := by decide +kernel
theorem dX7_isLike_4 : decode cX7_isLike 4 = .ok (.aload_n 1, 1) := by decide +kernel
theorem dX7_isLike_5 : decode cX7_isLike 5 = .ok (.getfield 9, 3) := by decide +kernel
theorem dX7_isLike_8 : decode cX7_isLike 8 = .ok (.invokestatic 45, 3) := by decide +kernel
theorem dX7_isLike_11 : decode cX7_isLike 11 = .ok (.ifCond .eq 35, 3) := by decide +kernel
theorem dX7_isLike_14 : decode cX7_isLike 14 = .ok (.aload_n 0, 1) := by decide +kernel
theorem dX7_isLike_15 : decode cX7_isLike 15 = .ok (.getfield 15, 3) := by decide +kernel
theorem dX7_isLike_18 : decode cX7_isLike 18 = .ok (.aload_n 1, 1) := by decide +kernel
theorem dX7_isLike_19 : decode cX7_isLike 19 = .ok (.getfield 15, 3) := by decide +kernel
theorem dX7_isLike_22 : decode cX7_isLike 22 = .ok (.invokestatic 45, 3) := by decide +kernel
theorem dX7_isLike_25 : decode cX7_isLike 25 = .ok (.ifCond .eq 21, 3) := by decide +kernel
theorem dX7_isLike_28 : decode cX7_isLike 28 = .ok (.aload_n 0, 1) := by decide +kernel
theorem dX7_isLike_29 : decode cX7_isLike 29 = .ok (.getfield 21, 3) := by decide +kernel
theorem dX7_isLike_32 : decode cX7_isLike 32 = .ok (.aload_n 1, 1) := by decide +kernel
theorem dX7_isLike_33 : decode cX7_isLike 33 = .ok (.getfield 21, 3) := by decide +kernel
theorem dX7_isLike_36 : decode cX7_isLike 36 = .ok (.invokestatic 45, 3) := by decide +kernel
theorem dX7_isLike_39 : decode cX7_isLike 39 = .ok (.ifCond .eq 7, 3) := by decide +kernel
theorem dX7_isLike_42 : decode cX7_isLike 42 = .ok (.iconst 1, 1) := by decide +kernel
theorem dX7_isLike_43 : decode cX7_isLike 43 = .ok (.goto 4, 3) := by decide +kernel
theorem dX7_isLike_46 : decode cX7_isLike 46 = .ok (.iconst 0, 1) := by decide +kernel
theorem dX7_isLike_47 : decode cX7_isLike 47 = .ok (.ireturn, 1) := by decide +kernel
theorem dX7_copy_0 : decode cX7_copy 0 = .ok (.aload_n 0, 1) := by decide +kernel
theorem dX7_copy_1 : decode cX7_copy 1 = .ok (.iconst 0, 1) := by decide +kernel
theorem dX7_copy_2 : decode cX7_copy 2 = .ok (.aload_n 1, 1) := by decide +kernel
theorem dX7_copy_3 : decode cX7_copy 3 = .ok (.iconst 0, 1) := by decide +kernel
theorem dX7_copy_4 : decode cX7_copy 4 = .ok (.aload_n 0, 1) := by decide +kernel
theorem dX7_copy_5 : decode cX7_copy 5 = .ok (.arraylength, 1) := by decide +kernel
theorem dX7_copy_6 : decode cX7_copy 6 = .ok (.aload_n 1, 1) := by decide +kernel
theorem dX7_copy_7 : decode cX7_copy 7 = .ok (.arraylength, 1) := by decide +kernel
theorem dX7_copy_8 : decode cX7_copy 8 = .ok (.invokestatic 49, 3) := by decide +kernel
theorem dX7_copy_11 : decode cX7_copy 11 = .ok (.invokestatic 55, 3) := by decide +kernel
theorem dX7_copy_14 : decode cX7_copy 14 = .ok (.return_, 1) := by decide +kernel
theorem dX7_areLike_0 : decode cX7_areLike 0 = .ok (.iconst 0, 1) := by decide +kernel
theorem dX7_areLike_1 : decode cX7_areLike 1 = .ok (.istore_n 2, 1) := by decide +kernel
theorem dX7_areLike_2 : decode cX7_areLike 2 = .ok (.iload_n 2, 1) := by decide +kernel
theorem dX7_areLike_3 : decode cX7_areLike 3 = .ok (.aload_n 0, 1) := by decide +kernel
theorem dX7_areLike_4 : decode cX7_areLike 4 = .ok (.arraylength, 1) := by decide +kernel
theorem dX7_areLike_5 : decode cX7_areLike 5 = .ok (.if_icmp .ge 26, 3) := by decide +kernel
theorem dX7_areLike_8 : decode cX7_areLike 8 = .ok (.iload_n 2, 1) := by decide +kernel
theorem dX7_areLike_9 : decode cX7_areLike 9 = .ok (.aload_n 1, 1) := by decide +kernel
theorem dX7_areLike_10 : decode cX7_areLike 10 = .ok (.arraylength, 1) := by decide +kernel
theorem dX7_areLike_11 : decode cX7_areLike 11 = .ok (.if_icmp .ge 20, 3) := by decide +kernel
theorem dX7_areLike_14 : decode cX7_areLike 14 = .ok (.aload_n 0, 1) := by decide +kernel
theorem dX7_areLike_15 : decode cX7_areLike 15 = .ok (.iload_n 2, 1) := by decide +kernel
theorem dX7_areLike_16 : decode cX7_areLike 16 = .ok (.iaload, 1) := by decide +kernel
theorem dX7_areLike_17 : decode cX7_areLike 17 = .ok (.aload_n 1, 1) := by decide +kernel
theorem dX7_areLike_18 : decode cX7_areLike 18 = .ok (.iload_n 2, 1) := by decide +kernel
theorem dX7_areLike_19 : decode cX7_areLike 19 = .ok (.iaload, 1) := by decide +kernel
theorem dX7_areLike_20 : decode cX7_areLike 20 = .ok (.if_icmp .eq 5, 3) := by decide +kernel
theorem dX7_areLike_23 : decode cX7_areLike 23 = .ok (.iconst 0, 1) := by decide +kernel
theorem dX7_areLike_24 : decode cX7_areLike 24 = .ok (.ireturn, 1) := by decide +kernel
theorem dX7_areLike_25 : decode cX7_areLike 25 = .ok (.iinc 2 1, 3) := by decide +kernel
theorem dX7_areLike_28 : decode cX7_areLike 28 = .ok (.goto (-26), 3) := by decide +kernel
theorem dX7_areLike_31 : decode cX7_areLike 31 = .ok (.iconst 1, 1) := by decide +kernel
theorem dX7_areLike_32 : decode cX7_areLike 32 = .ok (.ireturn, 1) := by decide +kernel
theorem dX8_init_0 : decode cX8_init 0 = .ok (.aload_n 0, 1) := by decide +kernel
theorem dX8_init_1 : decode cX8_init 1 = .ok (.invokespecial 3, 3) := by decide +kernel
theorem dX8_init_4 : decode cX8_init 4 = .ok (.aload_n 0, 1) := by decide +kernel
theorem dX8_init_5 : decode cX8_init 5 = .ok (.bipush 64, 2) := by decide +kernel
theorem dX8_init_7 : decode cX8_init 7 = .ok (.newarray .int, 2) := by decide +kernel
theorem dX8_init_9 : decode cX8_init 9 = .ok (.putfield 9, 3) := by decide +kernel
theorem dX8_init_12 : decode cX8_init 12 = .ok (.aload_n 0, 1) := by decide +kernel
theorem dX8_init_13 : decode cX8_init 13 = .ok (.iconst 0, 1) := by decide +kernel
theorem dX8_init_14 : decode cX8_init 14 = .ok (.putfield 15, 3) := by decide +kernel
theorem dX8_init_17 : decode cX8_init 17 = .ok (.aload_n 0, 1) := by decide +kernel
theorem dX8_init_18 : decode cX8_init 18 = .ok (.iconst 0, 1) := by decide +kernel
theorem dX8_init_19 : decode cX8_init 19 = .ok (.putfield 19, 3) := by decide +kernel
theorem dX8_init_22 : decode cX8_init 22 = .ok (.aload_n 0, 1) := by decide +kernel
theorem dX8_init_23 : decode cX8_init 23 = .ok (.iconst 0, 1) := by decide +kernel
theorem dX8_init_24 : decode cX8_init 24 = .ok (.putfield 22, 3) := by decide +kernel
theorem dX8_init_27 : decode cX8_init 27 = .ok (.aload_n 0, 1) := by decide +kernel
theorem dX8_init_28 : decode cX8_init 28 = .ok (.iconst 0, 1) := by decide +kernel
theorem dX8_init_29 : decode cX8_init 29 = .ok (.putfield 25, 3) := by decide +kernel
theorem dX8_init_32 : decode cX8_init 32 = .ok (.return_, 1) := by decide +kernel
theorem dX8_value_0 : decode cX8_value 0 = .ok (.iconst 0, 1) := by decide +kernel
theorem dX8_value_1 : decode cX8_value 1 = .ok (.istore 6, 2) := by decide +kernel
theorem dX8_value_3 : decode cX8_value 3 = .ok (.iconst 0, 1) := by decide +kernel
theorem dX8_value_4 : decode cX8_value 4 = .ok (.iload_n 2, 1) := by decide +kernel
theorem dX8_value_5 : decode cX8_value 5 = .ok (.invokestatic 28, 3) := by decide +kernel
theorem dX8_value_8 : decode cX8_value 8 = .ok (.istore 7, 2) := by decide +kernel
theorem dX8_value_10 : decode cX8_value 10 = .ok (.iload 7, 2) := by decide +kernel
theorem dX8_value_12 : decode cX8_value 12 = .ok (.iload_n 3, 1) := by decide +kernel
theorem dX8_value_13 : decode cX8_value 13 = .ok (.if_icmp .ge 167, 3) := by decide +kernel
theorem dX8_value_16 : decode cX8_value 16 = .ok (.iload 7, 2) := by decide +kernel
theorem dX8_value_18 : decode cX8_value 18 = .ok (.aload_n 1, 1) := by decide +kernel
theorem dX8_value_19 : decode cX8_value 19 = .ok (.arraylength, 1) := by decide +kernel
theorem dX8_value_20 : decode cX8_value 20 = .ok (.if_icmp .ge 160, 3) := by decide +kernel
theorem dX8_value_23 : decode cX8_value 23 = .ok (.aload_n 1, 1) := by decide +kernel
theorem dX8_value_24 : decode cX8_value 24 = .ok (.iload 7, 2) := by decide +kernel
theorem dX8_value_26 : decode cX8_value 26 = .ok (.iaload, 1) := by decide +kernel
theorem dX8_value_27 : decode cX8_value 27 = .ok (.istore 8, 2) := by decide +kernel
theorem dX8_value_29 : decode cX8_value 29 = .ok (.iload 8, 2) := by decide +kernel
theorem dX8_value_31 : decode cX8_value 31 = .ok (.invokestatic 34, 3) := by decide +kernel
theorem dX8_value_34 : decode cX8_value 34 = .ok (.istore 9, 2) := by decide +kernel
theorem dX8_value_36 : decode cX8_value 36 = .ok (.iload 6, 2) := by decide +kernel
theorem dX8_value_38 : decode cX8_value 38 = .ok (.iload 9, 2) := by decide +kernel
theorem dX8_value_40 : decode cX8_value 40 = .ok (.if_icmp .lt 16, 3) := by decide +kernel
theorem dX8_value_43 : decode cX8_value 43 = .ok (.iload 6, 2) := by decide +kernel
theorem dX8_value_45 : decode cX8_value 45 = .ok (.iload 9, 2) := by decide +kernel
theorem dX8_value_47 : decode cX8_value 47 = .ok (.isub, 1) := by decide +kernel
theorem dX8_value_48 : decode cX8_value 48 = .ok (.aload_n 0, 1) := by decide +kernel
theorem dX8_value_49 : decode cX8_value 49 = .ok (.getfield 9, 3) := by decide +kernel
theorem dX8_value_52 : decode cX8_value 52 = .ok (.arraylength, 1) := by decide +kernel
theorem dX8_value_53 : decode cX8_value 53 = .ok (.if_icmp .lt 5, 3) := by decide +kernel
theorem dX8_value_56 : decode cX8_value 56 = .ok (.iconst 0, 1) := by decide +kernel
theorem dX8_value_57 : decode cX8_value 57 = .ok (.ireturn, 1) := by decide +kernel
theorem dX8_value_58 : decode cX8_value 58 = .ok (.iload 9, 2) := by decide +kernel
theorem dX8_value_60 : decode cX8_value 60 = .ok (.iconst 2, 1) := by decide +kernel
theorem dX8_value_61 : decode cX8_value 61 = .ok (.if_icmp .ne 39, 3) := by decide +kernel
theorem dX8_value_64 : decode cX8_value 64 = .ok (.iinc 6 (-1), 3) := by decide +kernel
theorem dX8_value_67 : decode cX8_value 67 = .ok (.aload_n 0, 1) := by decide +kernel
theorem dX8_value_68 : decode cX8_value 68 = .ok (.getfield 9, 3) := by decide +kernel
theorem dX8_value_71 : decode cX8_value 71 = .ok (.iload 6, 2) := by decide +kernel
theorem dX8_value_73 : decode cX8_value 73 = .ok (.iconst 1, 1) := by decide +kernel
theorem dX8_value_74 : decode cX8_value 74 = .ok (.isub, 1) := by decide +kernel
theorem dX8_value_75 : decode cX8_value 75 = .ok (.iload 8, 2) := by decide +kernel
theorem dX8_value_77 : decode cX8_value 77 = .ok (.aload_n 0, 1) := by decide +kernel
theorem dX8_value_78 : decode cX8_value 78 = .ok (.getfield 9, 3) := by decide +kernel
theorem dX8_value_81 : decode cX8_value 81 = .ok (.iload 6, 2) := by decide +kernel
theorem dX8_value_83 : decode cX8_value 83 = .ok (.iconst 1, 1) := by decide +kernel
theorem dX8_value_84 : decode cX8_value 84 = .ok (.isub, 1) := by decide +kernel
theorem dX8_value_85 : decode cX8_value 85 = .ok (.iaload, 1) := by decide +kernel
theorem dX8_value_86 : decode cX8_value 86 = .ok (.aload_n 0, 1) := by decide +kernel
theorem dX8_value_87 : decode cX8_value 87 = .ok (.getfield 9, 3) := by decide +kernel
theorem dX8_value_90 : decode cX8_value 90 = .ok (.iload 6, 2) := by decide +kernel
theorem dX8_value_92 : decode cX8_value 92 = .ok (.iaload, 1) := by decide +kernel
theorem dX8_value_93 : decode cX8_value 93 = .ok (.invokestatic 38, 3) := by decide +kernel
theorem dX8_value_96 : decode cX8_value 96 = .ok (.iastore, 1) := by decide +kernel
theorem dX8_value_97 : decode cX8_value 97 = .ok (.goto 77, 3) := by decide +kernel
theorem dX8_value_100 : decode cX8_value 100 = .ok (.iload 9, 2) := by decide +kernel
theorem dX8_value_102 : decode cX8_value 102 = .ok (.iconst 1, 1) := by decide +kernel
theorem dX8_value_103 : decode cX8_value 103 = .ok (.if_icmp .ne 34, 3) := by decide +kernel
theorem dX8_value_106 : decode cX8_value 106 = .ok (.aload_n 0, 1) := by decide +kernel
theorem dX8_value_107 : decode cX8_value 107 = .ok (.getfield 9, 3) := by decide +kernel
theorem dX8_value_110 : decode cX8_value 110 = .ok (.iload 6, 2) := by decide +kernel
theorem dX8_value_112 : decode cX8_value 112 = .ok (.iconst 1, 1) := by decide +kernel
theorem dX8_value_113 : decode cX8_value 113 = .ok (.isub, 1) := by decide +kernel
theorem dX8_value_114 : decode cX8_value 114 = .ok (.aload_n 0, 1) := by decide +kernel
theorem dX8_value_115 : decode cX8_value 115 = .ok (.iload 8, 2) := by decide +kernel
theorem dX8_value_117 : decode cX8_value 117 = .ok (.aload_n 0, 1) := by decide +kernel
theorem dX8_value_118 : decode cX8_value 118 = .ok (.getfield 9, 3) := by decide +kernel
theorem dX8_value_121 : decode cX8_value 121 = .ok (.iload 6, 2) := by decide +kernel
theorem dX8_value_123 : decode cX8_value 123 = .ok (.iconst 1, 1) := by decide +kernel
theorem dX8_value_124 : decode cX8_value 124 = .ok (.isub, 1) := by decide +kernel
theorem dX8_value_125 : decode cX8_value 125 = .ok (.iaload, 1) := by decide +kernel
theorem dX8_value_126 : decode cX8_value 126 = .ok (.aload 4, 2) := by decide +kernel
theorem dX8_value_128 : decode cX8_value 128 = .ok (.iload 5, 2) := by decide +kernel
theorem dX8_value_130 : decode cX8_value 130 = .ok (.invokevirtual 42, 3) := by decide +kernel
theorem dX8_value_133 : decode cX8_value 133 = .ok (.iastore, 1) := by decide +kernel
theorem dX8_value_134 : decode cX8_value 134 = .ok (.goto 40, 3) := by decide +kernel
theorem dX8_value_137 : decode cX8_value 137 = .ok (.aload_n 0, 1) := by decide +kernel
theorem dX8_value_138 : decode cX8_value 138 = .ok (.getfield 9, 3) := by decide +kernel
theorem dX8_value_141 : decode cX8_value 141 = .ok (.iload 6, 2) := by decide +kernel
theorem dX8_value_143 : decode cX8_value 143 = .ok (.iload 8, 2) := by decide +kernel
theorem dX8_value_145 : decode cX8_value 145 = .ok (.sipush 256, 3) := by decide +kernel
theorem dX8_value_148 : decode cX8_value 148 = .ok (.if_icmp .lt 12, 3) := by decide +kernel
theorem dX8_value_151 : decode cX8_value 151 = .ok (.iload 8, 2) := by decide +kernel
theorem dX8_value_153 : decode cX8_value 153 = .ok (.sipush 256, 3) := by decide +kernel
theorem dX8_value_156 : decode cX8_value 156 = .ok (.isub, 1) := by decide +kernel
theorem dX8_value_157 : decode cX8_value 157 = .ok (.goto 13, 3) := by decide +kernel
theorem dX8_value_160 : decode cX8_value 160 = .ok (.aload_n 0, 1) := by decide +kernel
theorem dX8_value_161 : decode cX8_value 161 = .ok (.iload 8, 2) := by decide +kernel
theorem dX8_value_163 : decode cX8_value 163 = .ok (.aload 4, 2) := by decide +kernel
theorem dX8_value_165 : decode cX8_value 165 = .ok (.iload 5, 2) := by decide +kernel
theorem dX8_value_167 : decode cX8_value 167 = .ok (.invokevirtual 46, 3) := by decide +kernel
theorem dX8_value_170 : decode cX8_value 170 = .ok (.iastore, 1) := by decide +kernel
theorem dX8_value_171 : decode cX8_value 171 = .ok (.iinc 6 1, 3) := by decide +kernel
theorem dX8_value_174 : decode cX8_value 174 = .ok (.iinc 7 1, 3) := by decide +kernel
theorem dX8_value_177 : decode cX8_value 177 = .ok (.goto (-167), 3) := by decide +kernel
theorem dX8_value_180 : decode cX8_value 180 = .ok (.iload 6, 2) := by decide +kernel
theorem dX8_value_182 : decode cX8_value 182 = .ok (.ifCond .le 15, 3) := by decide +kernel
theorem dX8_value_185 : decode cX8_value 185 = .ok (.aload_n 0, 1) := by decide +kernel
theorem dX8_value_186 : decode cX8_value 186 = .ok (.getfield 9, 3) := by decide +kernel
theorem dX8_value_189 : decode cX8_value 189 = .ok (.iload 6, 2) := by decide +kernel
theorem dX8_value_191 : decode cX8_value 191 = .ok (.iconst 1, 1) := by decide +kernel
theorem dX8_value_192 : decode cX8_value 192 = .ok (.isub, 1) := by decide +kernel
theorem dX8_value_193 : decode cX8_value 193 = .ok (.iaload, 1) := by decide +kernel
theorem dX8_value_194 : decode cX8_value 194 = .ok (.goto 4, 3) := by decide +kernel
theorem dX8_value_197 : decode cX8_value 197 = .ok (.iconst 0, 1) := by decide +kernel
theorem dX8_value_198 : decode cX8_value 198 = .ok (.ireturn, 1) := by decide +kernel
theorem dX8_needed_0 : decode cX8_needed 0 = .ok (.iload_n 0, 1) := by decide +kernel
theorem dX8_needed_1 : decode cX8_needed 1 = .ok (.tableswitch 183 22 62 #[179, 179, 179, 181, 181, 181, 181, 183, 179, 183, 183, 183, 183, 183, 183, 183, 183, 183, 183, 183, 181, 181, 183, 181, 183, 181, 183, 183, 183, 183, 183, 183, 183, 183, 183, 183, 183, 183, 181, 181, 181], 179) := by decide +kernel
theorem dX8_needed_180 : decode cX8_needed 180 = .ok (.iconst 1, 1) := by decide +kernel
theorem dX8_needed_181 : decode cX8_needed 181 = .ok (.ireturn, 1) := by decide +kernel
theorem dX8_needed_182 : decode cX8_needed 182 = .ok (.iconst 2, 1) := by decide +kernel
theorem dX8_needed_183 : decode cX8_needed 183 = .ok (.ireturn, 1) := by decide +kernel
theorem dX8_needed_184 : decode cX8_needed 184 = .ok (.iconst 0, 1) := by decide +kernel
theorem dX8_needed_185 : decode cX8_needed 185 = .ok (.ireturn, 1) := by decide +kernel
theorem dX8_joined_0 : decode cX8_joined 0 = .ok (.iload_n 0, 1) := by decide +kernel
theorem dX8_joined_1 : decode cX8_joined 1 = .ok (.tableswitch 250 25 62 #[167, 171, 175, 181, 250, 250, 250, 250, 250, 250, 250, 250, 250, 250, 250, 250, 250, 205, 187, 250, 196, 250, 214, 250, 250, 250, 250, 250, 250, 250, 250, 250, 250, 250, 250, 228, 250, 239], 167) := by decide +kernel
theorem dX8_joined_168 : decode cX8_joined 168 = .ok (.iload_n 1, 1) := by decide +kernel
theorem dX8_joined_169 : decode cX8_joined 169 = .ok (.iload_n 2, 1) := by decide +kernel
theorem dX8_joined_170 : decode cX8_joined 170 = .ok (.ior, 1) := by decide +kernel
theorem dX8_joined_171 : decode cX8_joined 171 = .ok (.ireturn, 1) := by decide +kernel
theorem dX8_joined_172 : decode cX8_joined 172 = .ok (.iload_n 1, 1) := by decide +kernel
theorem dX8_joined_173 : decode cX8_joined 173 = .ok (.iload_n 2, 1) := by decide +kernel
theorem dX8_joined_174 : decode cX8_joined 174 = .ok (.iand, 1) := by decide +kernel
theorem dX8_joined_175 : decode cX8_joined 175 = .ok (.ireturn, 1) := by decide +kernel
theorem dX8_joined_176 : decode cX8_joined 176 = .ok (.iload_n 1, 1) := by decide +kernel
theorem dX8_joined_177 : decode cX8_joined 177 = .ok (.iload_n 2, 1) := by decide +kernel
theorem dX8_joined_178 : decode cX8_joined 178 = .ok (.invokestatic 50, 3) := by decide +kernel
theorem dX8_joined_181 : decode cX8_joined 181 = .ok (.ireturn, 1) := by decide +kernel
theorem dX8_joined_182 : decode cX8_joined 182 = .ok (.iload_n 1, 1) := by decide +kernel
theorem dX8_joined_183 : decode cX8_joined 183 = .ok (.iload_n 2, 1) := by decide +kernel
theorem dX8_joined_184 : decode cX8_joined 184 = .ok (.invokestatic 28, 3) := by decide +kernel
theorem dX8_joined_187 : decode cX8_joined 187 = .ok (.ireturn, 1) := by decide +kernel
theorem dX8_joined_188 : decode cX8_joined 188 = .ok (.iload_n 1, 1) := by decide +kernel
theorem dX8_joined_189 : decode cX8_joined 189 = .ok (.i2l, 1) := by decide +kernel
theorem dX8_joined_190 : decode cX8_joined 190 = .ok (.iload_n 2, 1) := by decide +kernel
theorem dX8_joined_191 : decode cX8_joined 191 = .ok (.i2l, 1) := by decide +kernel
theorem dX8_joined_192 : decode cX8_joined 192 = .ok (.ladd, 1) := by decide +kernel
theorem dX8_joined_193 : decode cX8_joined 193 = .ok (.invokestatic 53, 3) := by decide +kernel
theorem dX8_joined_196 : decode cX8_joined 196 = .ok (.ireturn, 1) := by decide +kernel
theorem dX8_joined_197 : decode cX8_joined 197 = .ok (.iload_n 1, 1) := by decide +kernel
theorem dX8_joined_198 : decode cX8_joined 198 = .ok (.i2l, 1) := by decide +kernel
theorem dX8_joined_199 : decode cX8_joined 199 = .ok (.iload_n 2, 1) := by decide +kernel
theorem dX8_joined_200 : decode cX8_joined 200 = .ok (.i2l, 1) := by decide +kernel
theorem dX8_joined_201 : decode cX8_joined 201 = .ok (.lsub, 1) := by decide +kernel
theorem dX8_joined_202 : decode cX8_joined 202 = .ok (.invokestatic 53, 3) := by decide +kernel
theorem dX8_joined_205 : decode cX8_joined 205 = .ok (.ireturn, 1) := by decide +kernel
theorem dX8_joined_206 : decode cX8_joined 206 = .ok (.iload_n 1, 1) := by decide +kernel
theorem dX8_joined_207 : decode cX8_joined 207 = .ok (.i2l, 1) := by decide +kernel
theorem dX8_joined_208 : decode cX8_joined 208 = .ok (.iload_n 2, 1) := by decide +kernel
theorem dX8_joined_209 : decode cX8_joined 209 = .ok (.i2l, 1) := by decide +kernel
theorem dX8_joined_210 : decode cX8_joined 210 = .ok (.lmul, 1) := by decide +kernel
theorem dX8_joined_211 : decode cX8_joined 211 = .ok (.invokestatic 53, 3) := by decide +kernel
theorem dX8_joined_214 : decode cX8_joined 214 = .ok (.ireturn, 1) := by decide +kernel
theorem dX8_joined_215 : decode cX8_joined 215 = .ok (.iload_n 2, 1) := by decide +kernel
theorem dX8_joined_216 : decode cX8_joined 216 = .ok (.ifCond .ne 7, 3) := by decide +kernel
theorem dX8_joined_219 : decode cX8_joined 219 = .ok (.iconst 0, 1) := by decide +kernel
theorem dX8_joined_220 : decode cX8_joined 220 = .ok (.goto 8, 3) := by decide +kernel
theorem dX8_joined_223 : decode cX8_joined 223 = .ok (.iload_n 1, 1) := by decide +kernel
theorem dX8_joined_224 : decode cX8_joined 224 = .ok (.iload_n 2, 1) := by decide +kernel
theorem dX8_joined_225 : decode cX8_joined 225 = .ok (.invokestatic 57, 3) := by decide +kernel
theorem dX8_joined_228 : decode cX8_joined 228 = .ok (.ireturn, 1) := by decide +kernel
theorem dX8_joined_229 : decode cX8_joined 229 = .ok (.iload_n 1, 1) := by decide +kernel
theorem dX8_joined_230 : decode cX8_joined 230 = .ok (.iload_n 2, 1) := by decide +kernel
theorem dX8_joined_231 : decode cX8_joined 231 = .ok (.if_icmp .ge 7, 3) := by decide +kernel
theorem dX8_joined_234 : decode cX8_joined 234 = .ok (.iconst 1, 1) := by decide +kernel
theorem dX8_joined_235 : decode cX8_joined 235 = .ok (.goto 4, 3) := by decide +kernel
theorem dX8_joined_238 : decode cX8_joined 238 = .ok (.iconst 0, 1) := by decide +kernel
theorem dX8_joined_239 : decode cX8_joined 239 = .ok (.ireturn, 1) := by decide +kernel
theorem dX8_joined_240 : decode cX8_joined 240 = .ok (.iload_n 1, 1) := by decide +kernel
theorem dX8_joined_241 : decode cX8_joined 241 = .ok (.iload_n 2, 1) := by decide +kernel
theorem dX8_joined_242 : decode cX8_joined 242 = .ok (.if_icmp .le 7, 3) := by decide +kernel
theorem dX8_joined_245 : decode cX8_joined 245 = .ok (.iconst 1, 1) := by decide +kernel
theorem dX8_joined_246 : decode cX8_joined 246 = .ok (.goto 4, 3) := by decide +kernel
theorem dX8_joined_249 : decode cX8_joined 249 = .ok (.iconst 0, 1) := by decide +kernel
theorem dX8_joined_250 : decode cX8_joined 250 = .ok (.ireturn, 1) := by decide +kernel
theorem dX8_joined_251 : decode cX8_joined 251 = .ok (.iload_n 1, 1) := by decide +kernel
theorem dX8_joined_252 : decode cX8_joined 252 = .ok (.iload_n 2, 1) := by decide +kernel
theorem dX8_joined_253 : decode cX8_joined 253 = .ok (.if_icmp .ne 7, 3) := by decide +kernel
theorem dX8_joined_256 : decode cX8_joined 256 = .ok (.iconst 1, 1) := by decide +kernel
theorem dX8_joined_257 : decode cX8_joined 257 = .ok (.goto 4, 3) := by decide +kernel
theorem dX8_joined_260 : decode cX8_joined 260 = .ok (.iconst 0, 1) := by decide +kernel
theorem dX8_joined_261 : decode cX8_joined 261 = .ok (.ireturn, 1) := by decide +kernel
theorem dX8_held_0 : decode cX8_held 0 = .ok (.ldc2_w 60, 3) := by decide +kernel
theorem dX8_held_3 : decode cX8_held 3 = .ok (.ldc2_w 62, 3) := by decide +kernel
theorem dX8_held_6 : decode cX8_held 6 = .ok (.lload_n 0, 1) := by decide +kernel
theorem dX8_held_7 : decode cX8_held 7 = .ok (.invokestatic 64, 3) := by decide +kernel
theorem dX8_held_10 : decode cX8_held 10 = .ok (.invokestatic 67, 3) := by decide +kernel
theorem dX8_held_13 : decode cX8_held 13 = .ok (.l2i, 1) := by decide +kernel
theorem dX8_held_14 : decode cX8_held 14 = .ok (.ireturn, 1) := by decide +kernel
theorem dX8_askedOf_0 : decode cX8_askedOf 0 = .ok (.iload_n 1, 1) := by decide +kernel
theorem dX8_askedOf_1 : decode cX8_askedOf 1 = .ok (.bipush 24, 2) := by decide +kernel
theorem dX8_askedOf_3 : decode cX8_askedOf 3 = .ok (.if_icmp .ne 7, 3) := by decide +kernel
theorem dX8_askedOf_6 : decode cX8_askedOf 6 = .ok (.iconst 1, 1) := by decide +kernel
theorem dX8_askedOf_7 : decode cX8_askedOf 7 = .ok (.iload_n 2, 1) := by decide +kernel
theorem dX8_askedOf_8 : decode cX8_askedOf 8 = .ok (.isub, 1) := by decide +kernel
theorem dX8_askedOf_9 : decode cX8_askedOf 9 = .ok (.ireturn, 1) := by decide +kernel
theorem dX8_askedOf_10 : decode cX8_askedOf 10 = .ok (.iload_n 1, 1) := by decide +kernel
theorem dX8_askedOf_11 : decode cX8_askedOf 11 = .ok (.bipush 30, 2) := by decide +kernel
theorem dX8_askedOf_13 : decode cX8_askedOf 13 = .ok (.if_icmp .ne 29, 3) := by decide +kernel
theorem dX8_askedOf_16 : decode cX8_askedOf 16 = .ok (.iload_n 2, 1) := by decide +kernel
theorem dX8_askedOf_17 : decode cX8_askedOf 17 = .ok (.ifCond .lt 23, 3) := by decide +kernel
theorem dX8_askedOf_20 : decode cX8_askedOf 20 = .ok (.iload_n 2, 1) := by decide +kernel
theorem dX8_askedOf_21 : decode cX8_askedOf 21 = .ok (.getstatic 69, 3) := by decide +kernel
theorem dX8_askedOf_24 : decode cX8_askedOf 24 = .ok (.iconst 4, 1) := by decide +kernel
theorem dX8_askedOf_25 : decode cX8_askedOf 25 = .ok (.iaload, 1) := by decide +kernel
theorem dX8_askedOf_26 : decode cX8_askedOf 26 = .ok (.if_icmp .ge 14, 3) := by decide +kernel
theorem dX8_askedOf_29 : decode cX8_askedOf 29 = .ok (.aload_n 0, 1) := by decide +kernel
theorem dX8_askedOf_30 : decode cX8_askedOf 30 = .ok (.getfield 25, 3) := by decide +kernel
theorem dX8_askedOf_33 : decode cX8_askedOf 33 = .ok (.iload_n 2, 1) := by decide +kernel
theorem dX8_askedOf_34 : decode cX8_askedOf 34 = .ok (.ishr, 1) := by decide +kernel
theorem dX8_askedOf_35 : decode cX8_askedOf 35 = .ok (.iconst 1, 1) := by decide +kernel
theorem dX8_askedOf_36 : decode cX8_askedOf 36 = .ok (.iand, 1) := by decide +kernel
theorem dX8_askedOf_37 : decode cX8_askedOf 37 = .ok (.goto 4, 3) := by decide +kernel
theorem dX8_askedOf_40 : decode cX8_askedOf 40 = .ok (.iconst 0, 1) := by decide +kernel
theorem dX8_askedOf_41 : decode cX8_askedOf 41 = .ok (.ireturn, 1) := by decide +kernel
theorem dX8_askedOf_42 : decode cX8_askedOf 42 = .ok (.iload_n 2, 1) := by decide +kernel
theorem dX8_askedOf_43 : decode cX8_askedOf 43 = .ok (.ifCond .lt 11, 3) := by decide +kernel
theorem dX8_askedOf_46 : decode cX8_askedOf 46 = .ok (.iload_n 2, 1) := by decide +kernel
theorem dX8_askedOf_47 : decode cX8_askedOf 47 = .ok (.aload_n 0, 1) := by decide +kernel
theorem dX8_askedOf_48 : decode cX8_askedOf 48 = .ok (.getfield 15, 3) := by decide +kernel
theorem dX8_askedOf_51 : decode cX8_askedOf 51 = .ok (.if_icmp .lt 5, 3) := by decide +kernel
theorem dX8_askedOf_54 : decode cX8_askedOf 54 = .ok (.iconst 0, 1) := by decide +kernel
theorem dX8_askedOf_55 : decode cX8_askedOf 55 = .ok (.ireturn, 1) := by decide +kernel
theorem dX8_askedOf_56 : decode cX8_askedOf 56 = .ok (.iload 4, 2) := by decide +kernel
theorem dX8_askedOf_58 : decode cX8_askedOf 58 = .ok (.iconst 4, 1) := by decide +kernel
theorem dX8_askedOf_59 : decode cX8_askedOf 59 = .ok (.imul, 1) := by decide +kernel
theorem dX8_askedOf_60 : decode cX8_askedOf 60 = .ok (.iload_n 2, 1) := by decide +kernel
theorem dX8_askedOf_61 : decode cX8_askedOf 61 = .ok (.iadd, 1) := by decide +kernel
theorem dX8_askedOf_62 : decode cX8_askedOf 62 = .ok (.istore 5, 2) := by decide +kernel
theorem dX8_askedOf_64 : decode cX8_askedOf 64 = .ok (.iload_n 1, 1) := by decide +kernel
theorem dX8_askedOf_65 : decode cX8_askedOf 65 = .ok (.bipush 22, 2) := by decide +kernel
theorem dX8_askedOf_67 : decode cX8_askedOf 67 = .ok (.if_icmp .ne 13, 3) := by decide +kernel
theorem dX8_askedOf_70 : decode cX8_askedOf 70 = .ok (.aload_n 3, 1) := by decide +kernel
theorem dX8_askedOf_71 : decode cX8_askedOf 71 = .ok (.getfield 72, 3) := by decide +kernel
theorem dX8_askedOf_74 : decode cX8_askedOf 74 = .ok (.iload 5, 2) := by decide +kernel
theorem dX8_askedOf_76 : decode cX8_askedOf 76 = .ok (.iaload, 1) := by decide +kernel
theorem dX8_askedOf_77 : decode cX8_askedOf 77 = .ok (.goto 10, 3) := by decide +kernel
theorem dX8_askedOf_80 : decode cX8_askedOf 80 = .ok (.aload_n 3, 1) := by decide +kernel
theorem dX8_askedOf_81 : decode cX8_askedOf 81 = .ok (.getfield 77, 3) := by decide +kernel
theorem dX8_askedOf_84 : decode cX8_askedOf 84 = .ok (.iload 5, 2) := by decide +kernel
theorem dX8_askedOf_86 : decode cX8_askedOf 86 = .ok (.iaload, 1) := by decide +kernel
theorem dX8_askedOf_87 : decode cX8_askedOf 87 = .ok (.ireturn, 1) := by decide +kernel
theorem dX8_alone_0 : decode cX8_alone 0 = .ok (.iload_n 1, 1) := by decide +kernel
theorem dX8_alone_1 : decode cX8_alone 1 = .ok (.tableswitch 136 15 29 #[75, 77, 85, 98, 112, 126, 131, 136, 136, 136, 136, 136, 136, 136, 93], 75) := by decide +kernel
theorem dX8_alone_76 : decode cX8_alone 76 = .ok (.iconst 1, 1) := by decide +kernel
theorem dX8_alone_77 : decode cX8_alone 77 = .ok (.ireturn, 1) := by decide +kernel
theorem dX8_alone_78 : decode cX8_alone 78 = .ok (.aload_n 2, 1) := by decide +kernel
theorem dX8_alone_79 : decode cX8_alone 79 = .ok (.getfield 80, 3) := by decide +kernel
theorem dX8_alone_82 : decode cX8_alone 82 = .ok (.bipush 24, 2) := by decide +kernel
theorem dX8_alone_84 : decode cX8_alone 84 = .ok (.irem, 1) := by decide +kernel
theorem dX8_alone_85 : decode cX8_alone 85 = .ok (.ireturn, 1) := by decide +kernel
theorem dX8_alone_86 : decode cX8_alone 86 = .ok (.aload_n 2, 1) := by decide +kernel
theorem dX8_alone_87 : decode cX8_alone 87 = .ok (.getfield 80, 3) := by decide +kernel
theorem dX8_alone_90 : decode cX8_alone 90 = .ok (.bipush 24, 2) := by decide +kernel
theorem dX8_alone_92 : decode cX8_alone 92 = .ok (.idiv, 1) := by decide +kernel
theorem dX8_alone_93 : decode cX8_alone 93 = .ok (.ireturn, 1) := by decide +kernel
theorem dX8_alone_94 : decode cX8_alone 94 = .ok (.aload_n 2, 1) := by decide +kernel
theorem dX8_alone_95 : decode cX8_alone 95 = .ok (.getfield 80, 3) := by decide +kernel
theorem dX8_alone_98 : decode cX8_alone 98 = .ok (.ireturn, 1) := by decide +kernel
theorem dX8_alone_99 : decode cX8_alone 99 = .ok (.aload_n 2, 1) := by decide +kernel
theorem dX8_alone_100 : decode cX8_alone 100 = .ok (.getfield 77, 3) := by decide +kernel
theorem dX8_alone_103 : decode cX8_alone 103 = .ok (.iload_n 3, 1) := by decide +kernel
theorem dX8_alone_104 : decode cX8_alone 104 = .ok (.iconst 4, 1) := by decide +kernel
theorem dX8_alone_105 : decode cX8_alone 105 = .ok (.imul, 1) := by decide +kernel
theorem dX8_alone_106 : decode cX8_alone 106 = .ok (.aload_n 0, 1) := by decide +kernel
theorem dX8_alone_107 : decode cX8_alone 107 = .ok (.getfield 19, 3) := by decide +kernel
theorem dX8_alone_110 : decode cX8_alone 110 = .ok (.iadd, 1) := by decide +kernel
theorem dX8_alone_111 : decode cX8_alone 111 = .ok (.iaload, 1) := by decide +kernel
theorem dX8_alone_112 : decode cX8_alone 112 = .ok (.ireturn, 1) := by decide +kernel
theorem dX8_alone_113 : decode cX8_alone 113 = .ok (.aload_n 2, 1) := by decide +kernel
theorem dX8_alone_114 : decode cX8_alone 114 = .ok (.getfield 72, 3) := by decide +kernel
theorem dX8_alone_117 : decode cX8_alone 117 = .ok (.iload_n 3, 1) := by decide +kernel
theorem dX8_alone_118 : decode cX8_alone 118 = .ok (.iconst 4, 1) := by decide +kernel
theorem dX8_alone_119 : decode cX8_alone 119 = .ok (.imul, 1) := by decide +kernel
theorem dX8_alone_120 : decode cX8_alone 120 = .ok (.aload_n 0, 1) := by decide +kernel
theorem dX8_alone_121 : decode cX8_alone 121 = .ok (.getfield 19, 3) := by decide +kernel
theorem dX8_alone_124 : decode cX8_alone 124 = .ok (.iadd, 1) := by decide +kernel
theorem dX8_alone_125 : decode cX8_alone 125 = .ok (.iaload, 1) := by decide +kernel
theorem dX8_alone_126 : decode cX8_alone 126 = .ok (.ireturn, 1) := by decide +kernel
theorem dX8_alone_127 : decode cX8_alone 127 = .ok (.aload_n 0, 1) := by decide +kernel
theorem dX8_alone_128 : decode cX8_alone 128 = .ok (.getfield 22, 3) := by decide +kernel
theorem dX8_alone_131 : decode cX8_alone 131 = .ok (.ireturn, 1) := by decide +kernel
theorem dX8_alone_132 : decode cX8_alone 132 = .ok (.aload_n 0, 1) := by decide +kernel
theorem dX8_alone_133 : decode cX8_alone 133 = .ok (.getfield 19, 3) := by decide +kernel
theorem dX8_alone_136 : decode cX8_alone 136 = .ok (.ireturn, 1) := by decide +kernel
theorem dX8_alone_137 : decode cX8_alone 137 = .ok (.iconst 0, 1) := by decide +kernel
theorem dX8_alone_138 : decode cX8_alone 138 = .ok (.ireturn, 1) := by decide +kernel
theorem dX9_init_0 : decode cX9_init 0 = .ok (.aload_n 0, 1) := by decide +kernel
theorem dX9_init_1 : decode cX9_init 1 = .ok (.invokespecial 3, 3) := by decide +kernel
theorem dX9_init_4 : decode cX9_init 4 = .ok (.aload_n 0, 1) := by decide +kernel
theorem dX9_init_5 : decode cX9_init 5 = .ok (.getstatic 9, 3) := by decide +kernel
theorem dX9_init_8 : decode cX9_init 8 = .ok (.arraylength, 1) := by decide +kernel
theorem dX9_init_9 : decode cX9_init 9 = .ok (.newarray .int, 2) := by decide +kernel
theorem dX9_init_11 : decode cX9_init 11 = .ok (.putfield 13, 3) := by decide +kernel
theorem dX9_init_14 : decode cX9_init 14 = .ok (.aload_n 0, 1) := by decide +kernel
theorem dX9_init_15 : decode cX9_init 15 = .ok (.getstatic 9, 3) := by decide +kernel
theorem dX9_init_18 : decode cX9_init 18 = .ok (.arraylength, 1) := by decide +kernel
theorem dX9_init_19 : decode cX9_init 19 = .ok (.bipush 8, 2) := by decide +kernel
theorem dX9_init_21 : decode cX9_init 21 = .ok (.imul, 1) := by decide +kernel
theorem dX9_init_22 : decode cX9_init 22 = .ok (.newarray .int, 2) := by decide +kernel
theorem dX9_init_24 : decode cX9_init 24 = .ok (.putfield 18, 3) := by decide +kernel
theorem dX9_init_27 : decode cX9_init 27 = .ok (.aload_n 0, 1) := by decide +kernel
theorem dX9_init_28 : decode cX9_init 28 = .ok (.bipush 32, 2) := by decide +kernel
theorem dX9_init_30 : decode cX9_init 30 = .ok (.newarray .int, 2) := by decide +kernel
theorem dX9_init_32 : decode cX9_init 32 = .ok (.putfield 21, 3) := by decide +kernel
theorem dX9_init_35 : decode cX9_init 35 = .ok (.aload_n 0, 1) := by decide +kernel
theorem dX9_init_36 : decode cX9_init 36 = .ok (.getstatic 9, 3) := by decide +kernel
theorem dX9_init_39 : decode cX9_init 39 = .ok (.iconst 2, 1) := by decide +kernel
theorem dX9_init_40 : decode cX9_init 40 = .ok (.iaload, 1) := by decide +kernel
theorem dX9_init_41 : decode cX9_init 41 = .ok (.newarray .int, 2) := by decide +kernel
theorem dX9_init_43 : decode cX9_init 43 = .ok (.putfield 24, 3) := by decide +kernel
theorem dX9_init_46 : decode cX9_init 46 = .ok (.aload_n 0, 1) := by decide +kernel
theorem dX9_init_47 : decode cX9_init 47 = .ok (.getstatic 9, 3) := by decide +kernel
theorem dX9_init_50 : decode cX9_init 50 = .ok (.iconst 2, 1) := by decide +kernel
theorem dX9_init_51 : decode cX9_init 51 = .ok (.iaload, 1) := by decide +kernel
theorem dX9_init_52 : decode cX9_init 52 = .ok (.newarray .int, 2) := by decide +kernel
theorem dX9_init_54 : decode cX9_init 54 = .ok (.putfield 27, 3) := by decide +kernel
theorem dX9_init_57 : decode cX9_init 57 = .ok (.aload_n 0, 1) := by decide +kernel
theorem dX9_init_58 : decode cX9_init 58 = .ok (.getstatic 9, 3) := by decide +kernel
theorem dX9_init_61 : decode cX9_init 61 = .ok (.iconst 3, 1) := by decide +kernel
theorem dX9_init_62 : decode cX9_init 62 = .ok (.iaload, 1) := by decide +kernel
theorem dX9_init_63 : decode cX9_init 63 = .ok (.newarray .int, 2) := by decide +kernel
theorem dX9_init_65 : decode cX9_init 65 = .ok (.putfield 30, 3) := by decide +kernel
theorem dX9_init_68 : decode cX9_init 68 = .ok (.aload_n 0, 1) := by decide +kernel
theorem dX9_init_69 : decode cX9_init 69 = .ok (.getstatic 9, 3) := by decide +kernel
theorem dX9_init_72 : decode cX9_init 72 = .ok (.iconst 3, 1) := by decide +kernel
theorem dX9_init_73 : decode cX9_init 73 = .ok (.iaload, 1) := by decide +kernel
theorem dX9_init_74 : decode cX9_init 74 = .ok (.newarray .int, 2) := by decide +kernel
theorem dX9_init_76 : decode cX9_init 76 = .ok (.putfield 33, 3) := by decide +kernel
theorem dX9_init_79 : decode cX9_init 79 = .ok (.aload_n 0, 1) := by decide +kernel
theorem dX9_init_80 : decode cX9_init 80 = .ok (.getstatic 9, 3) := by decide +kernel
theorem dX9_init_83 : decode cX9_init 83 = .ok (.iconst 3, 1) := by decide +kernel
theorem dX9_init_84 : decode cX9_init 84 = .ok (.iaload, 1) := by decide +kernel
theorem dX9_init_85 : decode cX9_init 85 = .ok (.newarray .int, 2) := by decide +kernel
theorem dX9_init_87 : decode cX9_init 87 = .ok (.putfield 36, 3) := by decide +kernel
theorem dX9_init_90 : decode cX9_init 90 = .ok (.aload_n 0, 1) := by decide +kernel
theorem dX9_init_91 : decode cX9_init 91 = .ok (.new 39, 3) := by decide +kernel
theorem dX9_init_94 : decode cX9_init 94 = .ok (.dup, 1) := by decide +kernel
theorem dX9_init_95 : decode cX9_init 95 = .ok (.invokespecial 41, 3) := by decide +kernel
theorem dX9_init_98 : decode cX9_init 98 = .ok (.putfield 42, 3) := by decide +kernel
theorem dX9_init_101 : decode cX9_init 101 = .ok (.aload_n 0, 1) := by decide +kernel
theorem dX9_init_102 : decode cX9_init 102 = .ok (.bipush 8, 2) := by decide +kernel
theorem dX9_init_104 : decode cX9_init 104 = .ok (.newarray .int, 2) := by decide +kernel
theorem dX9_init_106 : decode cX9_init 106 = .ok (.putfield 46, 3) := by decide +kernel
theorem dX9_init_109 : decode cX9_init 109 = .ok (.aload_n 0, 1) := by decide +kernel
theorem dX9_init_110 : decode cX9_init 110 = .ok (.bipush 8, 2) := by decide +kernel
theorem dX9_init_112 : decode cX9_init 112 = .ok (.newarray .int, 2) := by decide +kernel
theorem dX9_init_114 : decode cX9_init 114 = .ok (.putfield 49, 3) := by decide +kernel
theorem dX9_init_117 : decode cX9_init 117 = .ok (.aload_n 0, 1) := by decide +kernel
theorem dX9_init_118 : decode cX9_init 118 = .ok (.invokevirtual 52, 3) := by decide +kernel
theorem dX9_init_121 : decode cX9_init 121 = .ok (.return_, 1) := by decide +kernel
theorem dX9_clear_0 : decode cX9_clear 0 = .ok (.aload_n 0, 1) := by decide +kernel
theorem dX9_clear_1 : decode cX9_clear 1 = .ok (.iconst 0, 1) := by decide +kernel
theorem dX9_clear_2 : decode cX9_clear 2 = .ok (.putfield 55, 3) := by decide +kernel
theorem dX9_clear_5 : decode cX9_clear 5 = .ok (.aload_n 0, 1) := by decide +kernel
theorem dX9_clear_6 : decode cX9_clear 6 = .ok (.getfield 13, 3) := by decide +kernel
theorem dX9_clear_9 : decode cX9_clear 9 = .ok (.iconst 0, 1) := by decide +kernel
theorem dX9_clear_10 : decode cX9_clear 10 = .ok (.invokestatic 59, 3) := by decide +kernel
theorem dX9_clear_13 : decode cX9_clear 13 = .ok (.aload_n 0, 1) := by decide +kernel
theorem dX9_clear_14 : decode cX9_clear 14 = .ok (.getfield 42, 3) := by decide +kernel
theorem dX9_clear_17 : decode cX9_clear 17 = .ok (.iconst 0, 1) := by decide +kernel
theorem dX9_clear_18 : decode cX9_clear 18 = .ok (.putfield 65, 3) := by decide +kernel
theorem dX9_clear_21 : decode cX9_clear 21 = .ok (.aload_n 0, 1) := by decide +kernel
theorem dX9_clear_22 : decode cX9_clear 22 = .ok (.getfield 46, 3) := by decide +kernel
theorem dX9_clear_25 : decode cX9_clear 25 = .ok (.iconst 0, 1) := by decide +kernel
theorem dX9_clear_26 : decode cX9_clear 26 = .ok (.invokestatic 59, 3) := by decide +kernel
theorem dX9_clear_29 : decode cX9_clear 29 = .ok (.aload_n 0, 1) := by decide +kernel
theorem dX9_clear_30 : decode cX9_clear 30 = .ok (.getfield 49, 3) := by decide +kernel
theorem dX9_clear_33 : decode cX9_clear 33 = .ok (.iconst 0, 1) := by decide +kernel
theorem dX9_clear_34 : decode cX9_clear 34 = .ok (.invokestatic 59, 3) := by decide +kernel
theorem dX9_clear_37 : decode cX9_clear 37 = .ok (.aload_n 0, 1) := by decide +kernel
theorem dX9_clear_38 : decode cX9_clear 38 = .ok (.iconst 5, 1) := by decide +kernel
theorem dX9_clear_39 : decode cX9_clear 39 = .ok (.putfield 68, 3) := by decide +kernel
theorem dX9_clear_42 : decode cX9_clear 42 = .ok (.aload_n 0, 1) := by decide +kernel
theorem dX9_clear_43 : decode cX9_clear 43 = .ok (.bipush 18, 2) := by decide +kernel
theorem dX9_clear_45 : decode cX9_clear 45 = .ok (.putfield 71, 3) := by decide +kernel
theorem dX9_clear_48 : decode cX9_clear 48 = .ok (.aload_n 0, 1) := by decide +kernel
theorem dX9_clear_49 : decode cX9_clear 49 = .ok (.iconst 0, 1) := by decide +kernel
theorem dX9_clear_50 : decode cX9_clear 50 = .ok (.putfield 74, 3) := by decide +kernel
theorem dX9_clear_53 : decode cX9_clear 53 = .ok (.return_, 1) := by decide +kernel
theorem dX9_findBusyClocks_0 : decode cX9_findBusyClocks 0 = .ok (.aload_n 0, 1) := by decide +kernel
theorem dX9_findBusyClocks_1 : decode cX9_findBusyClocks 1 = .ok (.iconst 1, 1) := by decide +kernel
theorem dX9_findBusyClocks_2 : decode cX9_findBusyClocks 2 = .ok (.aload_n 0, 1) := by decide +kernel
theorem dX9_findBusyClocks_3 : decode cX9_findBusyClocks 3 = .ok (.getfield 68, 3) := by decide +kernel
theorem dX9_findBusyClocks_6 : decode cX9_findBusyClocks 6 = .ok (.ishl, 1) := by decide +kernel
theorem dX9_findBusyClocks_7 : decode cX9_findBusyClocks 7 = .ok (.iconst 1, 1) := by decide +kernel
theorem dX9_findBusyClocks_8 : decode cX9_findBusyClocks 8 = .ok (.aload_n 0, 1) := by decide +kernel
theorem dX9_findBusyClocks_9 : decode cX9_findBusyClocks 9 = .ok (.getfield 71, 3) := by decide +kernel
theorem dX9_findBusyClocks_12 : decode cX9_findBusyClocks 12 = .ok (.ishl, 1) := by decide +kernel
theorem dX9_findBusyClocks_13 : decode cX9_findBusyClocks 13 = .ok (.ior, 1) := by decide +kernel
theorem dX9_findBusyClocks_14 : decode cX9_findBusyClocks 14 = .ok (.putfield 77, 3) := by decide +kernel
theorem dX9_findBusyClocks_17 : decode cX9_findBusyClocks 17 = .ok (.iconst 0, 1) := by decide +kernel
theorem dX9_findBusyClocks_18 : decode cX9_findBusyClocks 18 = .ok (.istore_n 1, 1) := by decide +kernel
theorem dX9_findBusyClocks_19 : decode cX9_findBusyClocks 19 = .ok (.iload_n 1, 1) := by decide +kernel
theorem dX9_findBusyClocks_20 : decode cX9_findBusyClocks 20 = .ok (.aload_n 0, 1) := by decide +kernel
theorem dX9_findBusyClocks_21 : decode cX9_findBusyClocks 21 = .ok (.getfield 13, 3) := by decide +kernel
theorem dX9_findBusyClocks_24 : decode cX9_findBusyClocks 24 = .ok (.iconst 3, 1) := by decide +kernel
theorem dX9_findBusyClocks_25 : decode cX9_findBusyClocks 25 = .ok (.iaload, 1) := by decide +kernel
theorem dX9_findBusyClocks_26 : decode cX9_findBusyClocks 26 = .ok (.if_icmp .ge 26, 3) := by decide +kernel
theorem dX9_findBusyClocks_29 : decode cX9_findBusyClocks 29 = .ok (.aload_n 0, 1) := by decide +kernel
theorem dX9_findBusyClocks_30 : decode cX9_findBusyClocks 30 = .ok (.dup, 1) := by decide +kernel
theorem dX9_findBusyClocks_31 : decode cX9_findBusyClocks 31 = .ok (.getfield 77, 3) := by decide +kernel
theorem dX9_findBusyClocks_34 : decode cX9_findBusyClocks 34 = .ok (.iconst 1, 1) := by decide +kernel
theorem dX9_findBusyClocks_35 : decode cX9_findBusyClocks 35 = .ok (.aload_n 0, 1) := by decide +kernel
theorem dX9_findBusyClocks_36 : decode cX9_findBusyClocks 36 = .ok (.getfield 36, 3) := by decide +kernel
theorem dX9_findBusyClocks_39 : decode cX9_findBusyClocks 39 = .ok (.iload_n 1, 1) := by decide +kernel
theorem dX9_findBusyClocks_40 : decode cX9_findBusyClocks 40 = .ok (.iaload, 1) := by decide +kernel
theorem dX9_findBusyClocks_41 : decode cX9_findBusyClocks 41 = .ok (.ishl, 1) := by decide +kernel
theorem dX9_findBusyClocks_42 : decode cX9_findBusyClocks 42 = .ok (.ior, 1) := by decide +kernel
theorem dX9_findBusyClocks_43 : decode cX9_findBusyClocks 43 = .ok (.putfield 77, 3) := by decide +kernel
theorem dX9_findBusyClocks_46 : decode cX9_findBusyClocks 46 = .ok (.iinc 1 1, 3) := by decide +kernel
theorem dX9_findBusyClocks_49 : decode cX9_findBusyClocks 49 = .ok (.goto (-30), 3) := by decide +kernel
theorem dX9_findBusyClocks_52 : decode cX9_findBusyClocks 52 = .ok (.return_, 1) := by decide +kernel
theorem dX9_isTold_0 : decode cX9_isTold 0 = .ok (.aload_n 0, 1) := by decide +kernel
theorem dX9_isTold_1 : decode cX9_isTold 1 = .ok (.getfield 49, 3) := by decide +kernel
theorem dX9_isTold_4 : decode cX9_isTold 4 = .ok (.iload_n 1, 1) := by decide +kernel
theorem dX9_isTold_5 : decode cX9_isTold 5 = .ok (.iaload, 1) := by decide +kernel
theorem dX9_isTold_6 : decode cX9_isTold 6 = .ok (.aload_n 0, 1) := by decide +kernel
theorem dX9_isTold_7 : decode cX9_isTold 7 = .ok (.getfield 46, 3) := by decide +kernel
theorem dX9_isTold_10 : decode cX9_isTold 10 = .ok (.iload_n 1, 1) := by decide +kernel
theorem dX9_isTold_11 : decode cX9_isTold 11 = .ok (.iaload, 1) := by decide +kernel
theorem dX9_isTold_12 : decode cX9_isTold 12 = .ok (.if_icmp .le 7, 3) := by decide +kernel
theorem dX9_isTold_15 : decode cX9_isTold 15 = .ok (.iconst 1, 1) := by decide +kernel
theorem dX9_isTold_16 : decode cX9_isTold 16 = .ok (.goto 4, 3) := by decide +kernel
theorem dX9_isTold_19 : decode cX9_isTold 19 = .ok (.iconst 0, 1) := by decide +kernel
theorem dX9_isTold_20 : decode cX9_isTold 20 = .ok (.ireturn, 1) := by decide +kernel
theorem dX9_mealsOf_0 : decode cX9_mealsOf 0 = .ok (.iconst 0, 1) := by decide +kernel
theorem dX9_mealsOf_1 : decode cX9_mealsOf 1 = .ok (.istore_n 2, 1) := by decide +kernel
theorem dX9_mealsOf_2 : decode cX9_mealsOf 2 = .ok (.iconst 0, 1) := by decide +kernel
theorem dX9_mealsOf_3 : decode cX9_mealsOf 3 = .ok (.istore_n 3, 1) := by decide +kernel
theorem dX9_mealsOf_4 : decode cX9_mealsOf 4 = .ok (.iload_n 3, 1) := by decide +kernel
theorem dX9_mealsOf_5 : decode cX9_mealsOf 5 = .ok (.aload_n 0, 1) := by decide +kernel
theorem dX9_mealsOf_6 : decode cX9_mealsOf 6 = .ok (.getfield 13, 3) := by decide +kernel
theorem dX9_mealsOf_9 : decode cX9_mealsOf 9 = .ok (.iconst 3, 1) := by decide +kernel
theorem dX9_mealsOf_10 : decode cX9_mealsOf 10 = .ok (.iaload, 1) := by decide +kernel
theorem dX9_mealsOf_11 : decode cX9_mealsOf 11 = .ok (.if_icmp .ge 22, 3) := by decide +kernel
theorem dX9_mealsOf_14 : decode cX9_mealsOf 14 = .ok (.aload_n 0, 1) := by decide +kernel
theorem dX9_mealsOf_15 : decode cX9_mealsOf 15 = .ok (.getfield 33, 3) := by decide +kernel
theorem dX9_mealsOf_18 : decode cX9_mealsOf 18 = .ok (.iload_n 3, 1) := by decide +kernel
theorem dX9_mealsOf_19 : decode cX9_mealsOf 19 = .ok (.iaload, 1) := by decide +kernel
theorem dX9_mealsOf_20 : decode cX9_mealsOf 20 = .ok (.iload_n 1, 1) := by decide +kernel
theorem dX9_mealsOf_21 : decode cX9_mealsOf 21 = .ok (.if_icmp .ne 6, 3) := by decide +kernel
theorem dX9_mealsOf_24 : decode cX9_mealsOf 24 = .ok (.iinc 2 1, 3) := by decide +kernel
theorem dX9_mealsOf_27 : decode cX9_mealsOf 27 = .ok (.iinc 3 1, 3) := by decide +kernel
theorem dX9_mealsOf_30 : decode cX9_mealsOf 30 = .ok (.goto (-26), 3) := by decide +kernel
theorem dX9_mealsOf_33 : decode cX9_mealsOf 33 = .ok (.iload_n 2, 1) := by decide +kernel
theorem dX9_mealsOf_34 : decode cX9_mealsOf 34 = .ok (.ireturn, 1) := by decide +kernel
theorem dX9_canKnead_0 : decode cX9_canKnead 0 = .ok (.iload_n 1, 1) := by decide +kernel
theorem dX9_canKnead_1 : decode cX9_canKnead 1 = .ok (.ifCond .le 27, 3) := by decide +kernel
theorem dX9_canKnead_4 : decode cX9_canKnead 4 = .ok (.iload_n 1, 1) := by decide +kernel
theorem dX9_canKnead_5 : decode cX9_canKnead 5 = .ok (.iconst 1, 1) := by decide +kernel
theorem dX9_canKnead_6 : decode cX9_canKnead 6 = .ok (.aload_n 0, 1) := by decide +kernel
theorem dX9_canKnead_7 : decode cX9_canKnead 7 = .ok (.getfield 13, 3) := by decide +kernel
theorem dX9_canKnead_10 : decode cX9_canKnead 10 = .ok (.iconst 1, 1) := by decide +kernel
theorem dX9_canKnead_11 : decode cX9_canKnead 11 = .ok (.iaload, 1) := by decide +kernel
theorem dX9_canKnead_12 : decode cX9_canKnead 12 = .ok (.ishl, 1) := by decide +kernel
theorem dX9_canKnead_13 : decode cX9_canKnead 13 = .ok (.if_icmp .ge 15, 3) := by decide +kernel
theorem dX9_canKnead_16 : decode cX9_canKnead 16 = .ok (.iload_n 1, 1) := by decide +kernel
theorem dX9_canKnead_17 : decode cX9_canKnead 17 = .ok (.invokestatic 80, 3) := by decide +kernel
theorem dX9_canKnead_20 : decode cX9_canKnead 20 = .ok (.iconst 3, 1) := by decide +kernel
theorem dX9_canKnead_21 : decode cX9_canKnead 21 = .ok (.if_icmp .gt 7, 3) := by decide +kernel
theorem dX9_canKnead_24 : decode cX9_canKnead 24 = .ok (.iconst 1, 1) := by decide +kernel
theorem dX9_canKnead_25 : decode cX9_canKnead 25 = .ok (.goto 4, 3) := by decide +kernel
theorem dX9_canKnead_28 : decode cX9_canKnead 28 = .ok (.iconst 0, 1) := by decide +kernel
theorem dX9_canKnead_29 : decode cX9_canKnead 29 = .ok (.ireturn, 1) := by decide +kernel
theorem dX9_isNamed_0 : decode cX9_isNamed 0 = .ok (.iconst 0, 1) := by decide +kernel
theorem dX9_isNamed_1 : decode cX9_isNamed 1 = .ok (.istore_n 2, 1) := by decide +kernel
theorem dX9_isNamed_2 : decode cX9_isNamed 2 = .ok (.iload_n 2, 1) := by decide +kernel
theorem dX9_isNamed_3 : decode cX9_isNamed 3 = .ok (.iconst 4, 1) := by decide +kernel
theorem dX9_isNamed_4 : decode cX9_isNamed 4 = .ok (.if_icmp .gt 26, 3) := by decide +kernel
theorem dX9_isNamed_7 : decode cX9_isNamed 7 = .ok (.iload_n 2, 1) := by decide +kernel
theorem dX9_isNamed_8 : decode cX9_isNamed 8 = .ok (.iconst 3, 1) := by decide +kernel
theorem dX9_isNamed_9 : decode cX9_isNamed 9 = .ok (.if_icmp .eq 15, 3) := by decide +kernel
theorem dX9_isNamed_12 : decode cX9_isNamed 12 = .ok (.aload_n 0, 1) := by decide +kernel
theorem dX9_isNamed_13 : decode cX9_isNamed 13 = .ok (.iload_n 2, 1) := by decide +kernel
theorem dX9_isNamed_14 : decode cX9_isNamed 14 = .ok (.iload_n 1, 1) := by decide +kernel
theorem dX9_isNamed_15 : decode cX9_isNamed 15 = .ok (.invokevirtual 86, 3) := by decide +kernel
theorem dX9_isNamed_18 : decode cX9_isNamed 18 = .ok (.iconst (-1), 1) := by decide +kernel
theorem dX9_isNamed_19 : decode cX9_isNamed 19 = .ok (.if_icmp .eq 5, 3) := by decide +kernel
theorem dX9_isNamed_22 : decode cX9_isNamed 22 = .ok (.iconst 1, 1) := by decide +kernel
theorem dX9_isNamed_23 : decode cX9_isNamed 23 = .ok (.ireturn, 1) := by decide +kernel
theorem dX9_isNamed_24 : decode cX9_isNamed 24 = .ok (.iinc 2 1, 3) := by decide +kernel
theorem dX9_isNamed_27 : decode cX9_isNamed 27 = .ok (.goto (-25), 3) := by decide +kernel
theorem dX9_isNamed_30 : decode cX9_isNamed 30 = .ok (.iconst 0, 1) := by decide +kernel
theorem dX9_isNamed_31 : decode cX9_isNamed 31 = .ok (.ireturn, 1) := by decide +kernel
theorem dX9_numberOf_0 : decode cX9_numberOf 0 = .ok (.iconst 0, 1) := by decide +kernel
theorem dX9_numberOf_1 : decode cX9_numberOf 1 = .ok (.istore_n 3, 1) := by decide +kernel
theorem dX9_numberOf_2 : decode cX9_numberOf 2 = .ok (.iload_n 3, 1) := by decide +kernel
theorem dX9_numberOf_3 : decode cX9_numberOf 3 = .ok (.aload_n 0, 1) := by decide +kernel
theorem dX9_numberOf_4 : decode cX9_numberOf 4 = .ok (.getfield 13, 3) := by decide +kernel
theorem dX9_numberOf_7 : decode cX9_numberOf 7 = .ok (.iload_n 1, 1) := by decide +kernel
theorem dX9_numberOf_8 : decode cX9_numberOf 8 = .ok (.iaload, 1) := by decide +kernel
theorem dX9_numberOf_9 : decode cX9_numberOf 9 = .ok (.if_icmp .ge 32, 3) := by decide +kernel
theorem dX9_numberOf_12 : decode cX9_numberOf 12 = .ok (.iload_n 3, 1) := by decide +kernel
theorem dX9_numberOf_13 : decode cX9_numberOf 13 = .ok (.bipush 8, 2) := by decide +kernel
theorem dX9_numberOf_15 : decode cX9_numberOf 15 = .ok (.if_icmp .ge 26, 3) := by decide +kernel
theorem dX9_numberOf_18 : decode cX9_numberOf 18 = .ok (.aload_n 0, 1) := by decide +kernel
theorem dX9_numberOf_19 : decode cX9_numberOf 19 = .ok (.getfield 18, 3) := by decide +kernel
theorem dX9_numberOf_22 : decode cX9_numberOf 22 = .ok (.iload_n 1, 1) := by decide +kernel
theorem dX9_numberOf_23 : decode cX9_numberOf 23 = .ok (.bipush 8, 2) := by decide +kernel
theorem dX9_numberOf_25 : decode cX9_numberOf 25 = .ok (.imul, 1) := by decide +kernel
theorem dX9_numberOf_26 : decode cX9_numberOf 26 = .ok (.iload_n 3, 1) := by decide +kernel
theorem dX9_numberOf_27 : decode cX9_numberOf 27 = .ok (.iadd, 1) := by decide +kernel
theorem dX9_numberOf_28 : decode cX9_numberOf 28 = .ok (.iaload, 1) := by decide +kernel
theorem dX9_numberOf_29 : decode cX9_numberOf 29 = .ok (.iload_n 2, 1) := by decide +kernel
theorem dX9_numberOf_30 : decode cX9_numberOf 30 = .ok (.if_icmp .ne 5, 3) := by decide +kernel
theorem dX9_numberOf_33 : decode cX9_numberOf 33 = .ok (.iload_n 3, 1) := by decide +kernel
theorem dX9_numberOf_34 : decode cX9_numberOf 34 = .ok (.ireturn, 1) := by decide +kernel
theorem dX9_numberOf_35 : decode cX9_numberOf 35 = .ok (.iinc 3 1, 3) := by decide +kernel
theorem dX9_numberOf_38 : decode cX9_numberOf 38 = .ok (.goto (-36), 3) := by decide +kernel
theorem dX9_numberOf_41 : decode cX9_numberOf 41 = .ok (.iconst (-1), 1) := by decide +kernel
theorem dX9_numberOf_42 : decode cX9_numberOf 42 = .ok (.ireturn, 1) := by decide +kernel
theorem dX10_init_0 : decode cX10_init 0 = .ok (.aload_n 0, 1) := by decide +kernel
theorem dX10_init_1 : decode cX10_init 1 = .ok (.invokespecial 3, 3) := by decide +kernel
theorem dX10_init_4 : decode cX10_init 4 = .ok (.aload_n 0, 1) := by decide +kernel
theorem dX10_init_5 : decode cX10_init 5 = .ok (.new 9, 3) := by decide +kernel
theorem dX10_init_8 : decode cX10_init 8 = .ok (.dup, 1) := by decide +kernel
theorem dX10_init_9 : decode cX10_init 9 = .ok (.invokespecial 11, 3) := by decide +kernel
theorem dX10_init_12 : decode cX10_init 12 = .ok (.putfield 12, 3) := by decide +kernel
theorem dX10_init_15 : decode cX10_init 15 = .ok (.aload_n 0, 1) := by decide +kernel
theorem dX10_init_16 : decode cX10_init 16 = .ok (.aload_n 0, 1) := by decide +kernel
theorem dX10_init_17 : decode cX10_init 17 = .ok (.getfield 12, 3) := by decide +kernel
theorem dX10_init_20 : decode cX10_init 20 = .ok (.getfield 18, 3) := by decide +kernel
theorem dX10_init_23 : decode cX10_init 23 = .ok (.putfield 22, 3) := by decide +kernel
theorem dX10_init_26 : decode cX10_init 26 = .ok (.return_, 1) := by decide +kernel
theorem dX10_readTown_0 : decode cX10_readTown 0 = .ok (.aload_n 2, 1) := by decide +kernel
theorem dX10_readTown_1 : decode cX10_readTown 1 = .ok (.invokevirtual 23, 3) := by decide +kernel
theorem dX10_readTown_4 : decode cX10_readTown 4 = .ok (.aload_n 0, 1) := by decide +kernel
theorem dX10_readTown_5 : decode cX10_readTown 5 = .ok (.getfield 22, 3) := by decide +kernel
theorem dX10_readTown_8 : decode cX10_readTown 8 = .ok (.iload_n 1, 1) := by decide +kernel
theorem dX10_readTown_9 : decode cX10_readTown 9 = .ok (.invokevirtual 28, 3) := by decide +kernel
theorem dX10_readTown_12 : decode cX10_readTown 12 = .ok (.iconst 0, 1) := by decide +kernel
theorem dX10_readTown_13 : decode cX10_readTown 13 = .ok (.istore_n 3, 1) := by decide +kernel
theorem dX10_readTown_14 : decode cX10_readTown 14 = .ok (.iload_n 3, 1) := by decide +kernel
theorem dX10_readTown_15 : decode cX10_readTown 15 = .ok (.bipush 60, 2) := by decide +kernel
theorem dX10_readTown_17 : decode cX10_readTown 17 = .ok (.if_icmp .gt 267, 3) := by decide +kernel
theorem dX10_readTown_20 : decode cX10_readTown 20 = .ok (.aload_n 0, 1) := by decide +kernel
theorem dX10_readTown_21 : decode cX10_readTown 21 = .ok (.getfield 22, 3) := by decide +kernel
theorem dX10_readTown_24 : decode cX10_readTown 24 = .ok (.getfield 34, 3) := by decide +kernel
theorem dX10_readTown_27 : decode cX10_readTown 27 = .ok (.ifCond .eq 257, 3) := by decide +kernel
theorem dX10_readTown_30 : decode cX10_readTown 30 = .ok (.iload_n 3, 1) := by decide +kernel
theorem dX10_readTown_31 : decode cX10_readTown 31 = .ok (.bipush 60, 2) := by decide +kernel
theorem dX10_readTown_33 : decode cX10_readTown 33 = .ok (.if_icmp .ne 19, 3) := by decide +kernel
theorem dX10_readTown_36 : decode cX10_readTown 36 = .ok (.aload_n 0, 1) := by decide +kernel
theorem dX10_readTown_37 : decode cX10_readTown 37 = .ok (.getfield 22, 3) := by decide +kernel
theorem dX10_readTown_40 : decode cX10_readTown 40 = .ok (.iconst 5, 1) := by decide +kernel
theorem dX10_readTown_41 : decode cX10_readTown 41 = .ok (.aload_n 0, 1) := by decide +kernel
theorem dX10_readTown_42 : decode cX10_readTown 42 = .ok (.getfield 22, 3) := by decide +kernel
theorem dX10_readTown_45 : decode cX10_readTown 45 = .ok (.getfield 38, 3) := by decide +kernel
theorem dX10_readTown_48 : decode cX10_readTown 48 = .ok (.invokevirtual 41, 3) := by decide +kernel
theorem dX10_readTown_51 : decode cX10_readTown 51 = .ok (.ireturn, 1) := by decide +kernel
theorem dX10_readTown_52 : decode cX10_readTown 52 = .ok (.aload_n 0, 1) := by decide +kernel
theorem dX10_readTown_53 : decode cX10_readTown 53 = .ok (.getfield 22, 3) := by decide +kernel
theorem dX10_readTown_56 : decode cX10_readTown 56 = .ok (.getfield 34, 3) := by decide +kernel
theorem dX10_readTown_59 : decode cX10_readTown 59 = .ok (.iconst 1, 1) := by decide +kernel
theorem dX10_readTown_60 : decode cX10_readTown 60 = .ok (.if_icmp .ne 13, 3) := by decide +kernel
theorem dX10_readTown_63 : decode cX10_readTown 63 = .ok (.aload_n 0, 1) := by decide +kernel
theorem dX10_readTown_64 : decode cX10_readTown 64 = .ok (.getfield 22, 3) := by decide +kernel
theorem dX10_readTown_67 : decode cX10_readTown 67 = .ok (.getfield 45, 3) := by decide +kernel
theorem dX10_readTown_70 : decode cX10_readTown 70 = .ok (.goto 4, 3) := by decide +kernel
theorem dX10_readTown_73 : decode cX10_readTown 73 = .ok (.iconst (-1), 1) := by decide +kernel
theorem dX10_readTown_74 : decode cX10_readTown 74 = .ok (.tableswitch 158 0 14 #[74, 84, 158, 94, 158, 158, 104, 158, 114, 158, 124, 136, 148, 148, 148], 74) := by decide +kernel
theorem dX10_readTown_148 : decode cX10_readTown 148 = .ok (.aload_n 0, 1) := by decide +kernel
theorem dX10_readTown_149 : decode cX10_readTown 149 = .ok (.aload_n 2, 1) := by decide +kernel
theorem dX10_readTown_150 : decode cX10_readTown 150 = .ok (.invokevirtual 48, 3) := by decide +kernel
theorem dX10_readTown_153 : decode cX10_readTown 153 = .ok (.istore 4, 2) := by decide +kernel
theorem dX10_readTown_155 : decode cX10_readTown 155 = .ok (.goto 94, 3) := by decide +kernel
theorem dX10_readTown_158 : decode cX10_readTown 158 = .ok (.aload_n 0, 1) := by decide +kernel
theorem dX10_readTown_159 : decode cX10_readTown 159 = .ok (.aload_n 2, 1) := by decide +kernel
theorem dX10_readTown_160 : decode cX10_readTown 160 = .ok (.invokevirtual 52, 3) := by decide +kernel
theorem dX10_readTown_163 : decode cX10_readTown 163 = .ok (.istore 4, 2) := by decide +kernel
theorem dX10_readTown_165 : decode cX10_readTown 165 = .ok (.goto 84, 3) := by decide +kernel
theorem dX10_readTown_168 : decode cX10_readTown 168 = .ok (.aload_n 0, 1) := by decide +kernel
theorem dX10_readTown_169 : decode cX10_readTown 169 = .ok (.aload_n 2, 1) := by decide +kernel
theorem dX10_readTown_170 : decode cX10_readTown 170 = .ok (.invokevirtual 55, 3) := by decide +kernel
theorem dX10_readTown_173 : decode cX10_readTown 173 = .ok (.istore 4, 2) := by decide +kernel
theorem dX10_readTown_175 : decode cX10_readTown 175 = .ok (.goto 74, 3) := by decide +kernel
theorem dX10_readTown_178 : decode cX10_readTown 178 = .ok (.aload_n 0, 1) := by decide +kernel
theorem dX10_readTown_179 : decode cX10_readTown 179 = .ok (.aload_n 2, 1) := by decide +kernel
theorem dX10_readTown_180 : decode cX10_readTown 180 = .ok (.invokevirtual 58, 3) := by decide +kernel
theorem dX10_readTown_183 : decode cX10_readTown 183 = .ok (.istore 4, 2) := by decide +kernel
theorem dX10_readTown_185 : decode cX10_readTown 185 = .ok (.goto 64, 3) := by decide +kernel
theorem dX10_readTown_188 : decode cX10_readTown 188 = .ok (.aload_n 0, 1) := by decide +kernel
theorem dX10_readTown_189 : decode cX10_readTown 189 = .ok (.aload_n 2, 1) := by decide +kernel
theorem dX10_readTown_190 : decode cX10_readTown 190 = .ok (.invokevirtual 61, 3) := by decide +kernel
theorem dX10_readTown_193 : decode cX10_readTown 193 = .ok (.istore 4, 2) := by decide +kernel
theorem dX10_readTown_195 : decode cX10_readTown 195 = .ok (.goto 54, 3) := by decide +kernel
theorem dX10_readTown_198 : decode cX10_readTown 198 = .ok (.aload_n 0, 1) := by decide +kernel
theorem dX10_readTown_199 : decode cX10_readTown 199 = .ok (.aload_n 2, 1) := by decide +kernel
theorem dX10_readTown_200 : decode cX10_readTown 200 = .ok (.bipush 6, 2) := by decide +kernel
theorem dX10_readTown_202 : decode cX10_readTown 202 = .ok (.invokevirtual 64, 3) := by decide +kernel
theorem dX10_readTown_205 : decode cX10_readTown 205 = .ok (.istore 4, 2) := by decide +kernel
theorem dX10_readTown_207 : decode cX10_readTown 207 = .ok (.goto 42, 3) := by decide +kernel
theorem dX10_readTown_210 : decode cX10_readTown 210 = .ok (.aload_n 0, 1) := by decide +kernel
theorem dX10_readTown_211 : decode cX10_readTown 211 = .ok (.aload_n 2, 1) := by decide +kernel
theorem dX10_readTown_212 : decode cX10_readTown 212 = .ok (.bipush 7, 2) := by decide +kernel
theorem dX10_readTown_214 : decode cX10_readTown 214 = .ok (.invokevirtual 64, 3) := by decide +kernel
theorem dX10_readTown_217 : decode cX10_readTown 217 = .ok (.istore 4, 2) := by decide +kernel
theorem dX10_readTown_219 : decode cX10_readTown 219 = .ok (.goto 30, 3) := by decide +kernel
theorem dX10_readTown_222 : decode cX10_readTown 222 = .ok (.aload_n 0, 1) := by decide +kernel
theorem dX10_readTown_223 : decode cX10_readTown 223 = .ok (.aload_n 2, 1) := by decide +kernel
theorem dX10_readTown_224 : decode cX10_readTown 224 = .ok (.invokevirtual 68, 3) := by decide +kernel
theorem dX10_readTown_227 : decode cX10_readTown 227 = .ok (.istore 4, 2) := by decide +kernel
theorem dX10_readTown_229 : decode cX10_readTown 229 = .ok (.goto 20, 3) := by decide +kernel
theorem dX10_readTown_232 : decode cX10_readTown 232 = .ok (.aload_n 0, 1) := by decide +kernel
theorem dX10_readTown_233 : decode cX10_readTown 233 = .ok (.getfield 22, 3) := by decide +kernel
theorem dX10_readTown_236 : decode cX10_readTown 236 = .ok (.iconst 1, 1) := by decide +kernel
theorem dX10_readTown_237 : decode cX10_readTown 237 = .ok (.aload_n 0, 1) := by decide +kernel
theorem dX10_readTown_238 : decode cX10_readTown 238 = .ok (.getfield 22, 3) := by decide +kernel
theorem dX10_readTown_241 : decode cX10_readTown 241 = .ok (.getfield 38, 3) := by decide +kernel
theorem dX10_readTown_244 : decode cX10_readTown 244 = .ok (.invokevirtual 41, 3) := by decide +kernel
theorem dX10_readTown_247 : decode cX10_readTown 247 = .ok (.istore 4, 2) := by decide +kernel
theorem dX10_readTown_249 : decode cX10_readTown 249 = .ok (.iload 4, 2) := by decide +kernel
theorem dX10_readTown_251 : decode cX10_readTown 251 = .ok (.ifCond .eq 15, 3) := by decide +kernel
theorem dX10_readTown_254 : decode cX10_readTown 254 = .ok (.aload_n 0, 1) := by decide +kernel
theorem dX10_readTown_255 : decode cX10_readTown 255 = .ok (.getfield 22, 3) := by decide +kernel
theorem dX10_readTown_258 : decode cX10_readTown 258 = .ok (.bipush 59, 2) := by decide +kernel
theorem dX10_readTown_260 : decode cX10_readTown 260 = .ok (.invokevirtual 71, 3) := by decide +kernel
theorem dX10_readTown_263 : decode cX10_readTown 263 = .ok (.ifCond .ne 5, 3) := by decide +kernel
theorem dX10_readTown_266 : decode cX10_readTown 266 = .ok (.iconst 0, 1) := by decide +kernel
theorem dX10_readTown_267 : decode cX10_readTown 267 = .ok (.ireturn, 1) := by decide +kernel
theorem dX10_readTown_268 : decode cX10_readTown 268 = .ok (.aload_n 2, 1) := by decide +kernel
theorem dX10_readTown_269 : decode cX10_readTown 269 = .ok (.dup, 1) := by decide +kernel
theorem dX10_readTown_270 : decode cX10_readTown 270 = .ok (.getfield 75, 3) := by decide +kernel
theorem dX10_readTown_273 : decode cX10_readTown 273 = .ok (.iconst 1, 1) := by decide +kernel
theorem dX10_readTown_274 : decode cX10_readTown 274 = .ok (.iadd, 1) := by decide +kernel
theorem dX10_readTown_275 : decode cX10_readTown 275 = .ok (.putfield 75, 3) := by decide +kernel
theorem dX10_readTown_278 : decode cX10_readTown 278 = .ok (.iinc 3 1, 3) := by decide +kernel
theorem dX10_readTown_281 : decode cX10_readTown 281 = .ok (.goto (-267), 3) := by decide +kernel
theorem dX10_readTown_284 : decode cX10_readTown 284 = .ok (.aload_n 2, 1) := by decide +kernel
theorem dX10_readTown_285 : decode cX10_readTown 285 = .ok (.invokevirtual 78, 3) := by decide +kernel
theorem dX10_readTown_288 : decode cX10_readTown 288 = .ok (.iconst 1, 1) := by decide +kernel
theorem dX10_readTown_289 : decode cX10_readTown 289 = .ok (.ireturn, 1) := by decide +kernel
theorem dX10_readMood_0 : decode cX10_readMood 0 = .ok (.aload_n 1, 1) := by decide +kernel
theorem dX10_readMood_1 : decode cX10_readMood 1 = .ok (.getfield 81, 3) := by decide +kernel
theorem dX10_readMood_4 : decode cX10_readMood 4 = .ok (.iconst 1, 1) := by decide +kernel
theorem dX10_readMood_5 : decode cX10_readMood 5 = .ok (.iaload, 1) := by decide +kernel
theorem dX10_readMood_6 : decode cX10_readMood 6 = .ok (.ifCond .le 19, 3) := by decide +kernel
theorem dX10_readMood_9 : decode cX10_readMood 9 = .ok (.aload_n 0, 1) := by decide +kernel
theorem dX10_readMood_10 : decode cX10_readMood 10 = .ok (.getfield 22, 3) := by decide +kernel
theorem dX10_readMood_13 : decode cX10_readMood 13 = .ok (.iconst 5, 1) := by decide +kernel
theorem dX10_readMood_14 : decode cX10_readMood 14 = .ok (.aload_n 0, 1) := by decide +kernel
theorem dX10_readMood_15 : decode cX10_readMood 15 = .ok (.getfield 22, 3) := by decide +kernel
theorem dX10_readMood_18 : decode cX10_readMood 18 = .ok (.getfield 38, 3) := by decide +kernel
theorem dX10_readMood_21 : decode cX10_readMood 21 = .ok (.invokevirtual 41, 3) := by decide +kernel
theorem dX10_readMood_24 : decode cX10_readMood 24 = .ok (.ireturn, 1) := by decide +kernel
theorem dX10_readMood_25 : decode cX10_readMood 25 = .ok (.aload_n 0, 1) := by decide +kernel
theorem dX10_readMood_26 : decode cX10_readMood 26 = .ok (.aload_n 1, 1) := by decide +kernel
theorem dX10_readMood_27 : decode cX10_readMood 27 = .ok (.iconst 0, 1) := by decide +kernel
theorem dX10_readMood_28 : decode cX10_readMood 28 = .ok (.invokevirtual 85, 3) := by decide +kernel
theorem dX10_readMood_31 : decode cX10_readMood 31 = .ok (.ireturn, 1) := by decide +kernel
theorem dX10_readPerson_0 : decode cX10_readPerson 0 = .ok (.aload_n 1, 1) := by decide +kernel
theorem dX10_readPerson_1 : decode cX10_readPerson 1 = .ok (.getfield 81, 3) := by decide +kernel
theorem dX10_readPerson_4 : decode cX10_readPerson 4 = .ok (.iconst 1, 1) := by decide +kernel
theorem dX10_readPerson_5 : decode cX10_readPerson 5 = .ok (.iaload, 1) := by decide +kernel
theorem dX10_readPerson_6 : decode cX10_readPerson 6 = .ok (.istore_n 2, 1) := by decide +kernel
theorem dX10_readPerson_7 : decode cX10_readPerson 7 = .ok (.aload_n 0, 1) := by decide +kernel
theorem dX10_readPerson_8 : decode cX10_readPerson 8 = .ok (.aload_n 1, 1) := by decide +kernel
theorem dX10_readPerson_9 : decode cX10_readPerson 9 = .ok (.iconst 1, 1) := by decide +kernel
theorem dX10_readPerson_10 : decode cX10_readPerson 10 = .ok (.invokevirtual 85, 3) := by decide +kernel
theorem dX10_readPerson_13 : decode cX10_readPerson 13 = .ok (.ifCond .eq 14, 3) := by decide +kernel
theorem dX10_readPerson_16 : decode cX10_readPerson 16 = .ok (.aload_n 0, 1) := by decide +kernel
theorem dX10_readPerson_17 : decode cX10_readPerson 17 = .ok (.getfield 22, 3) := by decide +kernel
theorem dX10_readPerson_20 : decode cX10_readPerson 20 = .ok (.iconst 2, 1) := by decide +kernel
theorem dX10_readPerson_21 : decode cX10_readPerson 21 = .ok (.invokevirtual 88, 3) := by decide +kernel
theorem dX10_readPerson_24 : decode cX10_readPerson 24 = .ok (.ifCond .ne 5, 3) := by decide +kernel
theorem dX10_readPerson_27 : decode cX10_readPerson 27 = .ok (.iconst 0, 1) := by decide +kernel
theorem dX10_readPerson_28 : decode cX10_readPerson 28 = .ok (.ireturn, 1) := by decide +kernel
theorem dX10_readPerson_29 : decode cX10_readPerson 29 = .ok (.iconst 0, 1) := by decide +kernel
theorem dX10_readPerson_30 : decode cX10_readPerson 30 = .ok (.istore_n 3, 1) := by decide +kernel
theorem dX10_readPerson_31 : decode cX10_readPerson 31 = .ok (.iload_n 3, 1) := by decide +kernel
theorem dX10_readPerson_32 : decode cX10_readPerson 32 = .ok (.aload_n 1, 1) := by decide +kernel
theorem dX10_readPerson_33 : decode cX10_readPerson 33 = .ok (.getfield 81, 3) := by decide +kernel
theorem dX10_readPerson_36 : decode cX10_readPerson 36 = .ok (.iconst 0, 1) := by decide +kernel
theorem dX10_readPerson_37 : decode cX10_readPerson 37 = .ok (.iaload, 1) := by decide +kernel
theorem dX10_readPerson_38 : decode cX10_readPerson 38 = .ok (.if_icmp .ge 40, 3) := by decide +kernel
theorem dX10_readPerson_41 : decode cX10_readPerson 41 = .ok (.aload_n 0, 1) := by decide +kernel
theorem dX10_readPerson_42 : decode cX10_readPerson 42 = .ok (.getfield 22, 3) := by decide +kernel
theorem dX10_readPerson_45 : decode cX10_readPerson 45 = .ok (.bipush 99, 2) := by decide +kernel
theorem dX10_readPerson_47 : decode cX10_readPerson 47 = .ok (.invokevirtual 91, 3) := by decide +kernel
theorem dX10_readPerson_50 : decode cX10_readPerson 50 = .ok (.istore 4, 2) := by decide +kernel
theorem dX10_readPerson_52 : decode cX10_readPerson 52 = .ok (.iload 4, 2) := by decide +kernel
theorem dX10_readPerson_54 : decode cX10_readPerson 54 = .ok (.iconst (-1), 1) := by decide +kernel
theorem dX10_readPerson_55 : decode cX10_readPerson 55 = .ok (.if_icmp .ne 5, 3) := by decide +kernel
theorem dX10_readPerson_58 : decode cX10_readPerson 58 = .ok (.iconst 0, 1) := by decide +kernel
theorem dX10_readPerson_59 : decode cX10_readPerson 59 = .ok (.ireturn, 1) := by decide +kernel
theorem dX10_readPerson_60 : decode cX10_readPerson 60 = .ok (.aload_n 1, 1) := by decide +kernel
theorem dX10_readPerson_61 : decode cX10_readPerson 61 = .ok (.getfield 95, 3) := by decide +kernel
theorem dX10_readPerson_64 : decode cX10_readPerson 64 = .ok (.iload_n 2, 1) := by decide +kernel
theorem dX10_readPerson_65 : decode cX10_readPerson 65 = .ok (.iconst 4, 1) := by decide +kernel
theorem dX10_readPerson_66 : decode cX10_readPerson 66 = .ok (.imul, 1) := by decide +kernel
theorem dX10_readPerson_67 : decode cX10_readPerson 67 = .ok (.iload_n 3, 1) := by decide +kernel
theorem dX10_readPerson_68 : decode cX10_readPerson 68 = .ok (.iadd, 1) := by decide +kernel
theorem dX10_readPerson_69 : decode cX10_readPerson 69 = .ok (.iload 4, 2) := by decide +kernel
theorem dX10_readPerson_71 : decode cX10_readPerson 71 = .ok (.iastore, 1) := by decide +kernel
theorem dX10_readPerson_72 : decode cX10_readPerson 72 = .ok (.iinc 3 1, 3) := by decide +kernel
theorem dX10_readPerson_75 : decode cX10_readPerson 75 = .ok (.goto (-44), 3) := by decide +kernel
theorem dX10_readPerson_78 : decode cX10_readPerson 78 = .ok (.iconst 1, 1) := by decide +kernel
theorem dX10_readPerson_79 : decode cX10_readPerson 79 = .ok (.ireturn, 1) := by decide +kernel
theorem dX10_readLoaf_0 : decode cX10_readLoaf 0 = .ok (.aload_n 1, 1) := by decide +kernel
theorem dX10_readLoaf_1 : decode cX10_readLoaf 1 = .ok (.getfield 81, 3) := by decide +kernel
theorem dX10_readLoaf_4 : decode cX10_readLoaf 4 = .ok (.iconst 2, 1) := by decide +kernel
theorem dX10_readLoaf_5 : decode cX10_readLoaf 5 = .ok (.iaload, 1) := by decide +kernel
theorem dX10_readLoaf_6 : decode cX10_readLoaf 6 = .ok (.istore_n 2, 1) := by decide +kernel
theorem dX10_readLoaf_7 : decode cX10_readLoaf 7 = .ok (.aload_n 0, 1) := by decide +kernel
theorem dX10_readLoaf_8 : decode cX10_readLoaf 8 = .ok (.aload_n 1, 1) := by decide +kernel
theorem dX10_readLoaf_9 : decode cX10_readLoaf 9 = .ok (.iconst 2, 1) := by decide +kernel
theorem dX10_readLoaf_10 : decode cX10_readLoaf 10 = .ok (.invokevirtual 85, 3) := by decide +kernel
theorem dX10_readLoaf_13 : decode cX10_readLoaf 13 = .ok (.ifCond .eq 14, 3) := by decide +kernel
theorem dX10_readLoaf_16 : decode cX10_readLoaf 16 = .ok (.aload_n 0, 1) := by decide +kernel
theorem dX10_readLoaf_17 : decode cX10_readLoaf 17 = .ok (.getfield 22, 3) := by decide +kernel
theorem dX10_readLoaf_20 : decode cX10_readLoaf 20 = .ok (.iconst 4, 1) := by decide +kernel
theorem dX10_readLoaf_21 : decode cX10_readLoaf 21 = .ok (.invokevirtual 88, 3) := by decide +kernel
theorem dX10_readLoaf_24 : decode cX10_readLoaf 24 = .ok (.ifCond .ne 5, 3) := by decide +kernel
theorem dX10_readLoaf_27 : decode cX10_readLoaf 27 = .ok (.iconst 0, 1) := by decide +kernel
theorem dX10_readLoaf_28 : decode cX10_readLoaf 28 = .ok (.ireturn, 1) := by decide +kernel
theorem dX10_readLoaf_29 : decode cX10_readLoaf 29 = .ok (.aload_n 0, 1) := by decide +kernel
theorem dX10_readLoaf_30 : decode cX10_readLoaf 30 = .ok (.getfield 22, 3) := by decide +kernel
theorem dX10_readLoaf_33 : decode cX10_readLoaf 33 = .ok (.bipush 100, 2) := by decide +kernel
theorem dX10_readLoaf_35 : decode cX10_readLoaf 35 = .ok (.invokevirtual 91, 3) := by decide +kernel
theorem dX10_readLoaf_38 : decode cX10_readLoaf 38 = .ok (.istore_n 3, 1) := by decide +kernel
theorem dX10_readLoaf_39 : decode cX10_readLoaf 39 = .ok (.iload_n 3, 1) := by decide +kernel
theorem dX10_readLoaf_40 : decode cX10_readLoaf 40 = .ok (.iconst (-1), 1) := by decide +kernel
theorem dX10_readLoaf_41 : decode cX10_readLoaf 41 = .ok (.if_icmp .eq 14, 3) := by decide +kernel
theorem dX10_readLoaf_44 : decode cX10_readLoaf 44 = .ok (.aload_n 0, 1) := by decide +kernel
theorem dX10_readLoaf_45 : decode cX10_readLoaf 45 = .ok (.getfield 22, 3) := by decide +kernel
theorem dX10_readLoaf_48 : decode cX10_readLoaf 48 = .ok (.iconst 5, 1) := by decide +kernel
theorem dX10_readLoaf_49 : decode cX10_readLoaf 49 = .ok (.invokevirtual 88, 3) := by decide +kernel
theorem dX10_readLoaf_52 : decode cX10_readLoaf 52 = .ok (.ifCond .ne 5, 3) := by decide +kernel
theorem dX10_readLoaf_55 : decode cX10_readLoaf 55 = .ok (.iconst 0, 1) := by decide +kernel
theorem dX10_readLoaf_56 : decode cX10_readLoaf 56 = .ok (.ireturn, 1) := by decide +kernel
theorem dX10_readLoaf_57 : decode cX10_readLoaf 57 = .ok (.iconst 0, 1) := by decide +kernel
theorem dX10_readLoaf_58 : decode cX10_readLoaf 58 = .ok (.istore 4, 2) := by decide +kernel
theorem dX10_readLoaf_60 : decode cX10_readLoaf 60 = .ok (.iconst 0, 1) := by decide +kernel
theorem dX10_readLoaf_61 : decode cX10_readLoaf 61 = .ok (.istore 5, 2) := by decide +kernel
theorem dX10_readLoaf_63 : decode cX10_readLoaf 63 = .ok (.iload 5, 2) := by decide +kernel
theorem dX10_readLoaf_65 : decode cX10_readLoaf 65 = .ok (.ifCond .eq 20, 3) := by decide +kernel
theorem dX10_readLoaf_68 : decode cX10_readLoaf 68 = .ok (.iload 5, 2) := by decide +kernel
theorem dX10_readLoaf_70 : decode cX10_readLoaf 70 = .ok (.iconst 3, 1) := by decide +kernel
theorem dX10_readLoaf_71 : decode cX10_readLoaf 71 = .ok (.if_icmp .gt 100, 3) := by decide +kernel
theorem dX10_readLoaf_74 : decode cX10_readLoaf 74 = .ok (.aload_n 0, 1) := by decide +kernel
theorem dX10_readLoaf_75 : decode cX10_readLoaf 75 = .ok (.getfield 22, 3) := by decide +kernel
theorem dX10_readLoaf_78 : decode cX10_readLoaf 78 = .ok (.getfield 34, 3) := by decide +kernel
theorem dX10_readLoaf_81 : decode cX10_readLoaf 81 = .ok (.iconst 1, 1) := by decide +kernel
theorem dX10_readLoaf_82 : decode cX10_readLoaf 82 = .ok (.if_icmp .ne 89, 3) := by decide +kernel
theorem dX10_readLoaf_85 : decode cX10_readLoaf 85 = .ok (.iload 5, 2) := by decide +kernel
theorem dX10_readLoaf_87 : decode cX10_readLoaf 87 = .ok (.iconst 3, 1) := by decide +kernel
theorem dX10_readLoaf_88 : decode cX10_readLoaf 88 = .ok (.if_icmp .ne 19, 3) := by decide +kernel
theorem dX10_readLoaf_91 : decode cX10_readLoaf 91 = .ok (.aload_n 0, 1) := by decide +kernel
theorem dX10_readLoaf_92 : decode cX10_readLoaf 92 = .ok (.getfield 22, 3) := by decide +kernel
theorem dX10_readLoaf_95 : decode cX10_readLoaf 95 = .ok (.iconst 5, 1) := by decide +kernel
theorem dX10_readLoaf_96 : decode cX10_readLoaf 96 = .ok (.aload_n 0, 1) := by decide +kernel
theorem dX10_readLoaf_97 : decode cX10_readLoaf 97 = .ok (.getfield 22, 3) := by decide +kernel
theorem dX10_readLoaf_100 : decode cX10_readLoaf 100 = .ok (.getfield 38, 3) := by decide +kernel
theorem dX10_readLoaf_103 : decode cX10_readLoaf 103 = .ok (.invokevirtual 41, 3) := by decide +kernel
theorem dX10_readLoaf_106 : decode cX10_readLoaf 106 = .ok (.ireturn, 1) := by decide +kernel
theorem dX10_readLoaf_107 : decode cX10_readLoaf 107 = .ok (.aload_n 0, 1) := by decide +kernel
theorem dX10_readLoaf_108 : decode cX10_readLoaf 108 = .ok (.aload_n 1, 1) := by decide +kernel
theorem dX10_readLoaf_109 : decode cX10_readLoaf 109 = .ok (.iconst 1, 1) := by decide +kernel
theorem dX10_readLoaf_110 : decode cX10_readLoaf 110 = .ok (.invokevirtual 98, 3) := by decide +kernel
theorem dX10_readLoaf_113 : decode cX10_readLoaf 113 = .ok (.istore 6, 2) := by decide +kernel
theorem dX10_readLoaf_115 : decode cX10_readLoaf 115 = .ok (.iload 6, 2) := by decide +kernel
theorem dX10_readLoaf_117 : decode cX10_readLoaf 117 = .ok (.iconst (-1), 1) := by decide +kernel
theorem dX10_readLoaf_118 : decode cX10_readLoaf 118 = .ok (.if_icmp .ne 5, 3) := by decide +kernel
theorem dX10_readLoaf_121 : decode cX10_readLoaf 121 = .ok (.iconst 0, 1) := by decide +kernel
theorem dX10_readLoaf_122 : decode cX10_readLoaf 122 = .ok (.ireturn, 1) := by decide +kernel
theorem dX10_readLoaf_123 : decode cX10_readLoaf 123 = .ok (.iload 4, 2) := by decide +kernel
theorem dX10_readLoaf_125 : decode cX10_readLoaf 125 = .ok (.iload 6, 2) := by decide +kernel
theorem dX10_readLoaf_127 : decode cX10_readLoaf 127 = .ok (.ishr, 1) := by decide +kernel
theorem dX10_readLoaf_128 : decode cX10_readLoaf 128 = .ok (.iconst 1, 1) := by decide +kernel
theorem dX10_readLoaf_129 : decode cX10_readLoaf 129 = .ok (.iand, 1) := by decide +kernel
theorem dX10_readLoaf_130 : decode cX10_readLoaf 130 = .ok (.ifCond .eq 19, 3) := by decide +kernel
theorem dX10_readLoaf_133 : decode cX10_readLoaf 133 = .ok (.aload_n 0, 1) := by decide +kernel
theorem dX10_readLoaf_134 : decode cX10_readLoaf 134 = .ok (.getfield 22, 3) := by decide +kernel
theorem dX10_readLoaf_137 : decode cX10_readLoaf 137 = .ok (.iconst 3, 1) := by decide +kernel
theorem dX10_readLoaf_138 : decode cX10_readLoaf 138 = .ok (.aload_n 0, 1) := by decide +kernel
theorem dX10_readLoaf_139 : decode cX10_readLoaf 139 = .ok (.getfield 22, 3) := by decide +kernel
theorem dX10_readLoaf_142 : decode cX10_readLoaf 142 = .ok (.getfield 38, 3) := by decide +kernel
theorem dX10_readLoaf_145 : decode cX10_readLoaf 145 = .ok (.invokevirtual 41, 3) := by decide +kernel
theorem dX10_readLoaf_148 : decode cX10_readLoaf 148 = .ok (.ireturn, 1) := by decide +kernel
theorem dX10_readLoaf_149 : decode cX10_readLoaf 149 = .ok (.iload 4, 2) := by decide +kernel
theorem dX10_readLoaf_151 : decode cX10_readLoaf 151 = .ok (.iconst 1, 1) := by decide +kernel
theorem dX10_readLoaf_152 : decode cX10_readLoaf 152 = .ok (.iload 6, 2) := by decide +kernel
theorem dX10_readLoaf_154 : decode cX10_readLoaf 154 = .ok (.ishl, 1) := by decide +kernel
theorem dX10_readLoaf_155 : decode cX10_readLoaf 155 = .ok (.ior, 1) := by decide +kernel
theorem dX10_readLoaf_156 : decode cX10_readLoaf 156 = .ok (.istore 4, 2) := by decide +kernel
theorem dX10_readLoaf_158 : decode cX10_readLoaf 158 = .ok (.aload_n 0, 1) := by decide +kernel
theorem dX10_readLoaf_159 : decode cX10_readLoaf 159 = .ok (.getfield 22, 3) := by decide +kernel
theorem dX10_readLoaf_162 : decode cX10_readLoaf 162 = .ok (.invokevirtual 102, 3) := by decide +kernel
theorem dX10_readLoaf_165 : decode cX10_readLoaf 165 = .ok (.iinc 5 1, 3) := by decide +kernel
theorem dX10_readLoaf_168 : decode cX10_readLoaf 168 = .ok (.goto (-105), 3) := by decide +kernel
theorem dX10_readLoaf_171 : decode cX10_readLoaf 171 = .ok (.aload_n 1, 1) := by decide +kernel
theorem dX10_readLoaf_172 : decode cX10_readLoaf 172 = .ok (.getfield 105, 3) := by decide +kernel
theorem dX10_readLoaf_175 : decode cX10_readLoaf 175 = .ok (.iload_n 2, 1) := by decide +kernel
theorem dX10_readLoaf_176 : decode cX10_readLoaf 176 = .ok (.iload_n 3, 1) := by decide +kernel
theorem dX10_readLoaf_177 : decode cX10_readLoaf 177 = .ok (.iastore, 1) := by decide +kernel
theorem dX10_readLoaf_178 : decode cX10_readLoaf 178 = .ok (.aload_n 1, 1) := by decide +kernel
theorem dX10_readLoaf_179 : decode cX10_readLoaf 179 = .ok (.getfield 108, 3) := by decide +kernel
theorem dX10_readLoaf_182 : decode cX10_readLoaf 182 = .ok (.iload_n 2, 1) := by decide +kernel
theorem dX10_readLoaf_183 : decode cX10_readLoaf 183 = .ok (.iload 4, 2) := by decide +kernel
theorem dX10_readLoaf_185 : decode cX10_readLoaf 185 = .ok (.iastore, 1) := by decide +kernel
theorem dX10_readLoaf_186 : decode cX10_readLoaf 186 = .ok (.iconst 1, 1) := by decide +kernel
theorem dX10_readLoaf_187 : decode cX10_readLoaf 187 = .ok (.ireturn, 1) := by decide +kernel
theorem dX10_readMeal_0 : decode cX10_readMeal 0 = .ok (.aload_n 1, 1) := by decide +kernel
theorem dX10_readMeal_1 : decode cX10_readMeal 1 = .ok (.getfield 81, 3) := by decide +kernel
theorem dX10_readMeal_4 : decode cX10_readMeal 4 = .ok (.iconst 3, 1) := by decide +kernel
theorem dX10_readMeal_5 : decode cX10_readMeal 5 = .ok (.iaload, 1) := by decide +kernel
theorem dX10_readMeal_6 : decode cX10_readMeal 6 = .ok (.istore_n 2, 1) := by decide +kernel
theorem dX10_readMeal_7 : decode cX10_readMeal 7 = .ok (.iload_n 2, 1) := by decide +kernel
theorem dX10_readMeal_8 : decode cX10_readMeal 8 = .ok (.getstatic 111, 3) := by decide +kernel
theorem dX10_readMeal_11 : decode cX10_readMeal 11 = .ok (.iconst 3, 1) := by decide +kernel
theorem dX10_readMeal_12 : decode cX10_readMeal 12 = .ok (.iaload, 1) := by decide +kernel
theorem dX10_readMeal_13 : decode cX10_readMeal 13 = .ok (.if_icmp .lt 19, 3) := by decide +kernel
theorem dX10_readMeal_16 : decode cX10_readMeal 16 = .ok (.aload_n 0, 1) := by decide +kernel
theorem dX10_readMeal_17 : decode cX10_readMeal 17 = .ok (.getfield 22, 3) := by decide +kernel
theorem dX10_readMeal_20 : decode cX10_readMeal 20 = .ok (.iconst 5, 1) := by decide +kernel
theorem dX10_readMeal_21 : decode cX10_readMeal 21 = .ok (.aload_n 0, 1) := by decide +kernel
theorem dX10_readMeal_22 : decode cX10_readMeal 22 = .ok (.getfield 22, 3) := by decide +kernel
theorem dX10_readMeal_25 : decode cX10_readMeal 25 = .ok (.getfield 38, 3) := by decide +kernel
theorem dX10_readMeal_28 : decode cX10_readMeal 28 = .ok (.invokevirtual 41, 3) := by decide +kernel
theorem dX10_readMeal_31 : decode cX10_readMeal 31 = .ok (.ireturn, 1) := by decide +kernel
theorem dX10_readMeal_32 : decode cX10_readMeal 32 = .ok (.aload_n 0, 1) := by decide +kernel
theorem dX10_readMeal_33 : decode cX10_readMeal 33 = .ok (.getfield 22, 3) := by decide +kernel
theorem dX10_readMeal_36 : decode cX10_readMeal 36 = .ok (.invokevirtual 102, 3) := by decide +kernel
theorem dX10_readMeal_39 : decode cX10_readMeal 39 = .ok (.aload_n 0, 1) := by decide +kernel
theorem dX10_readMeal_40 : decode cX10_readMeal 40 = .ok (.aload_n 1, 1) := by decide +kernel
theorem dX10_readMeal_41 : decode cX10_readMeal 41 = .ok (.iconst 1, 1) := by decide +kernel
theorem dX10_readMeal_42 : decode cX10_readMeal 42 = .ok (.invokevirtual 98, 3) := by decide +kernel
theorem dX10_readMeal_45 : decode cX10_readMeal 45 = .ok (.istore_n 3, 1) := by decide +kernel
theorem dX10_readMeal_46 : decode cX10_readMeal 46 = .ok (.iload_n 3, 1) := by decide +kernel
theorem dX10_readMeal_47 : decode cX10_readMeal 47 = .ok (.iconst (-1), 1) := by decide +kernel
theorem dX10_readMeal_48 : decode cX10_readMeal 48 = .ok (.if_icmp .ne 5, 3) := by decide +kernel
theorem dX10_readMeal_51 : decode cX10_readMeal 51 = .ok (.iconst 0, 1) := by decide +kernel
theorem dX10_readMeal_52 : decode cX10_readMeal 52 = .ok (.ireturn, 1) := by decide +kernel
theorem dX10_readMeal_53 : decode cX10_readMeal 53 = .ok (.aload_n 0, 1) := by decide +kernel
theorem dX10_readMeal_54 : decode cX10_readMeal 54 = .ok (.getfield 22, 3) := by decide +kernel
theorem dX10_readMeal_57 : decode cX10_readMeal 57 = .ok (.invokevirtual 102, 3) := by decide +kernel
theorem dX10_readMeal_60 : decode cX10_readMeal 60 = .ok (.aload_n 0, 1) := by decide +kernel
theorem dX10_readMeal_61 : decode cX10_readMeal 61 = .ok (.aload_n 1, 1) := by decide +kernel
theorem dX10_readMeal_62 : decode cX10_readMeal 62 = .ok (.iconst 2, 1) := by decide +kernel
theorem dX10_readMeal_63 : decode cX10_readMeal 63 = .ok (.invokevirtual 98, 3) := by decide +kernel
theorem dX10_readMeal_66 : decode cX10_readMeal 66 = .ok (.istore 4, 2) := by decide +kernel
theorem dX10_readMeal_68 : decode cX10_readMeal 68 = .ok (.iload 4, 2) := by decide +kernel
theorem dX10_readMeal_70 : decode cX10_readMeal 70 = .ok (.iconst (-1), 1) := by decide +kernel
theorem dX10_readMeal_71 : decode cX10_readMeal 71 = .ok (.if_icmp .ne 5, 3) := by decide +kernel
theorem dX10_readMeal_74 : decode cX10_readMeal 74 = .ok (.iconst 0, 1) := by decide +kernel
theorem dX10_readMeal_75 : decode cX10_readMeal 75 = .ok (.ireturn, 1) := by decide +kernel
theorem dX10_readMeal_76 : decode cX10_readMeal 76 = .ok (.aload_n 0, 1) := by decide +kernel
theorem dX10_readMeal_77 : decode cX10_readMeal 77 = .ok (.getfield 22, 3) := by decide +kernel
theorem dX10_readMeal_80 : decode cX10_readMeal 80 = .ok (.invokevirtual 102, 3) := by decide +kernel
theorem dX10_readMeal_83 : decode cX10_readMeal 83 = .ok (.aload_n 0, 1) := by decide +kernel
theorem dX10_readMeal_84 : decode cX10_readMeal 84 = .ok (.getfield 22, 3) := by decide +kernel
theorem dX10_readMeal_87 : decode cX10_readMeal 87 = .ok (.bipush 7, 2) := by decide +kernel
theorem dX10_readMeal_89 : decode cX10_readMeal 89 = .ok (.invokevirtual 88, 3) := by decide +kernel
theorem dX10_readMeal_92 : decode cX10_readMeal 92 = .ok (.ifCond .eq 15, 3) := by decide +kernel
theorem dX10_readMeal_95 : decode cX10_readMeal 95 = .ok (.aload_n 0, 1) := by decide +kernel
theorem dX10_readMeal_96 : decode cX10_readMeal 96 = .ok (.getfield 22, 3) := by decide +kernel
theorem dX10_readMeal_99 : decode cX10_readMeal 99 = .ok (.bipush 23, 2) := by decide +kernel
theorem dX10_readMeal_101 : decode cX10_readMeal 101 = .ok (.invokevirtual 91, 3) := by decide +kernel
theorem dX10_readMeal_104 : decode cX10_readMeal 104 = .ok (.goto 4, 3) := by decide +kernel
theorem dX10_readMeal_107 : decode cX10_readMeal 107 = .ok (.iconst (-1), 1) := by decide +kernel
theorem dX10_readMeal_108 : decode cX10_readMeal 108 = .ok (.istore 5, 2) := by decide +kernel
theorem dX10_readMeal_110 : decode cX10_readMeal 110 = .ok (.iload 5, 2) := by decide +kernel
theorem dX10_readMeal_112 : decode cX10_readMeal 112 = .ok (.iconst (-1), 1) := by decide +kernel
theorem dX10_readMeal_113 : decode cX10_readMeal 113 = .ok (.if_icmp .ne 5, 3) := by decide +kernel
theorem dX10_readMeal_116 : decode cX10_readMeal 116 = .ok (.iconst 0, 1) := by decide +kernel
theorem dX10_readMeal_117 : decode cX10_readMeal 117 = .ok (.ireturn, 1) := by decide +kernel
theorem dX10_readMeal_118 : decode cX10_readMeal 118 = .ok (.aload_n 1, 1) := by decide +kernel
theorem dX10_readMeal_119 : decode cX10_readMeal 119 = .ok (.getfield 114, 3) := by decide +kernel
theorem dX10_readMeal_122 : decode cX10_readMeal 122 = .ok (.iload_n 2, 1) := by decide +kernel
theorem dX10_readMeal_123 : decode cX10_readMeal 123 = .ok (.iload_n 3, 1) := by decide +kernel
theorem dX10_readMeal_124 : decode cX10_readMeal 124 = .ok (.iastore, 1) := by decide +kernel
theorem dX10_readMeal_125 : decode cX10_readMeal 125 = .ok (.aload_n 1, 1) := by decide +kernel
theorem dX10_readMeal_126 : decode cX10_readMeal 126 = .ok (.getfield 117, 3) := by decide +kernel
theorem dX10_readMeal_129 : decode cX10_readMeal 129 = .ok (.iload_n 2, 1) := by decide +kernel
theorem dX10_readMeal_130 : decode cX10_readMeal 130 = .ok (.iload 4, 2) := by decide +kernel
theorem dX10_readMeal_132 : decode cX10_readMeal 132 = .ok (.iastore, 1) := by decide +kernel
theorem dX10_readMeal_133 : decode cX10_readMeal 133 = .ok (.aload_n 1, 1) := by decide +kernel
theorem dX10_readMeal_134 : decode cX10_readMeal 134 = .ok (.getfield 120, 3) := by decide +kernel
theorem dX10_readMeal_137 : decode cX10_readMeal 137 = .ok (.iload_n 2, 1) := by decide +kernel
theorem dX10_readMeal_138 : decode cX10_readMeal 138 = .ok (.iload 5, 2) := by decide +kernel
theorem dX10_readMeal_140 : decode cX10_readMeal 140 = .ok (.iastore, 1) := by decide +kernel
theorem dX10_readMeal_141 : decode cX10_readMeal 141 = .ok (.aload_n 1, 1) := by decide +kernel
theorem dX10_readMeal_142 : decode cX10_readMeal 142 = .ok (.getfield 81, 3) := by decide +kernel
theorem dX10_readMeal_145 : decode cX10_readMeal 145 = .ok (.iconst 3, 1) := by decide +kernel
theorem dX10_readMeal_146 : decode cX10_readMeal 146 = .ok (.dup2, 1) := by decide +kernel
theorem dX10_readMeal_147 : decode cX10_readMeal 147 = .ok (.iaload, 1) := by decide +kernel
theorem dX10_readMeal_148 : decode cX10_readMeal 148 = .ok (.iconst 1, 1) := by decide +kernel
theorem dX10_readMeal_149 : decode cX10_readMeal 149 = .ok (.iadd, 1) := by decide +kernel
theorem dX10_readMeal_150 : decode cX10_readMeal 150 = .ok (.iastore, 1) := by decide +kernel
theorem dX10_readMeal_151 : decode cX10_readMeal 151 = .ok (.iconst 1, 1) := by decide +kernel
theorem dX10_readMeal_152 : decode cX10_readMeal 152 = .ok (.ireturn, 1) := by decide +kernel
theorem dX10_readDeed_0 : decode cX10_readDeed 0 = .ok (.aload_n 1, 1) := by decide +kernel
theorem dX10_readDeed_1 : decode cX10_readDeed 1 = .ok (.getfield 81, 3) := by decide +kernel
theorem dX10_readDeed_4 : decode cX10_readDeed 4 = .ok (.iconst 4, 1) := by decide +kernel
theorem dX10_readDeed_5 : decode cX10_readDeed 5 = .ok (.iaload, 1) := by decide +kernel
theorem dX10_readDeed_6 : decode cX10_readDeed 6 = .ok (.istore_n 2, 1) := by decide +kernel
theorem dX10_readDeed_7 : decode cX10_readDeed 7 = .ok (.aload_n 0, 1) := by decide +kernel
theorem dX10_readDeed_8 : decode cX10_readDeed 8 = .ok (.aload_n 1, 1) := by decide +kernel
theorem dX10_readDeed_9 : decode cX10_readDeed 9 = .ok (.iconst 4, 1) := by decide +kernel
theorem dX10_readDeed_10 : decode cX10_readDeed 10 = .ok (.invokevirtual 85, 3) := by decide +kernel
theorem dX10_readDeed_13 : decode cX10_readDeed 13 = .ok (.ifCond .eq 15, 3) := by decide +kernel
theorem dX10_readDeed_16 : decode cX10_readDeed 16 = .ok (.aload_n 0, 1) := by decide +kernel
theorem dX10_readDeed_17 : decode cX10_readDeed 17 = .ok (.getfield 22, 3) := by decide +kernel
theorem dX10_readDeed_20 : decode cX10_readDeed 20 = .ok (.bipush 9, 2) := by decide +kernel
theorem dX10_readDeed_22 : decode cX10_readDeed 22 = .ok (.invokevirtual 88, 3) := by decide +kernel
theorem dX10_readDeed_25 : decode cX10_readDeed 25 = .ok (.ifCond .ne 5, 3) := by decide +kernel
theorem dX10_readDeed_28 : decode cX10_readDeed 28 = .ok (.iconst 0, 1) := by decide +kernel
theorem dX10_readDeed_29 : decode cX10_readDeed 29 = .ok (.ireturn, 1) := by decide +kernel
theorem dX10_readDeed_30 : decode cX10_readDeed 30 = .ok (.aload_n 1, 1) := by decide +kernel
theorem dX10_readDeed_31 : decode cX10_readDeed 31 = .ok (.getfield 123, 3) := by decide +kernel
theorem dX10_readDeed_34 : decode cX10_readDeed 34 = .ok (.iload_n 2, 1) := by decide +kernel
theorem dX10_readDeed_35 : decode cX10_readDeed 35 = .ok (.aload_n 1, 1) := by decide +kernel
theorem dX10_readDeed_36 : decode cX10_readDeed 36 = .ok (.getfield 126, 3) := by decide +kernel
theorem dX10_readDeed_39 : decode cX10_readDeed 39 = .ok (.getfield 130, 3) := by decide +kernel
theorem dX10_readDeed_42 : decode cX10_readDeed 42 = .ok (.iastore, 1) := by decide +kernel
theorem dX10_readDeed_43 : decode cX10_readDeed 43 = .ok (.aload_n 0, 1) := by decide +kernel
theorem dX10_readDeed_44 : decode cX10_readDeed 44 = .ok (.getfield 12, 3) := by decide +kernel
theorem dX10_readDeed_47 : decode cX10_readDeed 47 = .ok (.iconst 1, 1) := by decide +kernel
theorem dX10_readDeed_48 : decode cX10_readDeed 48 = .ok (.putfield 135, 3) := by decide +kernel
theorem dX10_readDeed_51 : decode cX10_readDeed 51 = .ok (.aload_n 0, 1) := by decide +kernel
theorem dX10_readDeed_52 : decode cX10_readDeed 52 = .ok (.getfield 12, 3) := by decide +kernel
theorem dX10_readDeed_55 : decode cX10_readDeed 55 = .ok (.aload_n 1, 1) := by decide +kernel
theorem dX10_readDeed_56 : decode cX10_readDeed 56 = .ok (.getfield 126, 3) := by decide +kernel
theorem dX10_readDeed_59 : decode cX10_readDeed 59 = .ok (.iconst 0, 1) := by decide +kernel
theorem dX10_readDeed_60 : decode cX10_readDeed 60 = .ok (.invokevirtual 138, 3) := by decide +kernel
theorem dX10_readDeed_63 : decode cX10_readDeed 63 = .ok (.istore_n 3, 1) := by decide +kernel
theorem dX10_readDeed_64 : decode cX10_readDeed 64 = .ok (.aload_n 1, 1) := by decide +kernel
theorem dX10_readDeed_65 : decode cX10_readDeed 65 = .ok (.getfield 142, 3) := by decide +kernel
theorem dX10_readDeed_68 : decode cX10_readDeed 68 = .ok (.iload_n 2, 1) := by decide +kernel
theorem dX10_readDeed_69 : decode cX10_readDeed 69 = .ok (.aload_n 1, 1) := by decide +kernel
theorem dX10_readDeed_70 : decode cX10_readDeed 70 = .ok (.getfield 126, 3) := by decide +kernel
theorem dX10_readDeed_73 : decode cX10_readDeed 73 = .ok (.getfield 130, 3) := by decide +kernel
theorem dX10_readDeed_76 : decode cX10_readDeed 76 = .ok (.iastore, 1) := by decide +kernel
theorem dX10_readDeed_77 : decode cX10_readDeed 77 = .ok (.iload_n 3, 1) := by decide +kernel
theorem dX10_readDeed_78 : decode cX10_readDeed 78 = .ok (.ireturn, 1) := by decide +kernel
theorem dX10_readOnce_0 : decode cX10_readOnce 0 = .ok (.aload_n 1, 1) := by decide +kernel
theorem dX10_readOnce_1 : decode cX10_readOnce 1 = .ok (.iload_n 2, 1) := by decide +kernel
theorem dX10_readOnce_2 : decode cX10_readOnce 2 = .ok (.invokevirtual 145, 3) := by decide +kernel
theorem dX10_readOnce_5 : decode cX10_readOnce 5 = .ok (.ifCond .eq 19, 3) := by decide +kernel
theorem dX10_readOnce_8 : decode cX10_readOnce 8 = .ok (.aload_n 0, 1) := by decide +kernel
theorem dX10_readOnce_9 : decode cX10_readOnce 9 = .ok (.getfield 22, 3) := by decide +kernel
theorem dX10_readOnce_12 : decode cX10_readOnce 12 = .ok (.iconst 5, 1) := by decide +kernel
theorem dX10_readOnce_13 : decode cX10_readOnce 13 = .ok (.aload_n 0, 1) := by decide +kernel
theorem dX10_readOnce_14 : decode cX10_readOnce 14 = .ok (.getfield 22, 3) := by decide +kernel
theorem dX10_readOnce_17 : decode cX10_readOnce 17 = .ok (.getfield 38, 3) := by decide +kernel
theorem dX10_readOnce_20 : decode cX10_readOnce 20 = .ok (.invokevirtual 41, 3) := by decide +kernel
theorem dX10_readOnce_23 : decode cX10_readOnce 23 = .ok (.ireturn, 1) := by decide +kernel
theorem dX10_readOnce_24 : decode cX10_readOnce 24 = .ok (.aload_n 0, 1) := by decide +kernel
theorem dX10_readOnce_25 : decode cX10_readOnce 25 = .ok (.getfield 22, 3) := by decide +kernel
theorem dX10_readOnce_28 : decode cX10_readOnce 28 = .ok (.invokevirtual 102, 3) := by decide +kernel
theorem dX10_readOnce_31 : decode cX10_readOnce 31 = .ok (.aload_n 1, 1) := by decide +kernel
theorem dX10_readOnce_32 : decode cX10_readOnce 32 = .ok (.getfield 123, 3) := by decide +kernel
theorem dX10_readOnce_35 : decode cX10_readOnce 35 = .ok (.iload_n 2, 1) := by decide +kernel
theorem dX10_readOnce_36 : decode cX10_readOnce 36 = .ok (.aload_n 1, 1) := by decide +kernel
theorem dX10_readOnce_37 : decode cX10_readOnce 37 = .ok (.getfield 126, 3) := by decide +kernel
theorem dX10_readOnce_40 : decode cX10_readOnce 40 = .ok (.getfield 130, 3) := by decide +kernel
theorem dX10_readOnce_43 : decode cX10_readOnce 43 = .ok (.iastore, 1) := by decide +kernel
theorem dX10_readOnce_44 : decode cX10_readOnce 44 = .ok (.aload_n 0, 1) := by decide +kernel
theorem dX10_readOnce_45 : decode cX10_readOnce 45 = .ok (.getfield 12, 3) := by decide +kernel
theorem dX10_readOnce_48 : decode cX10_readOnce 48 = .ok (.iconst 0, 1) := by decide +kernel
theorem dX10_readOnce_49 : decode cX10_readOnce 49 = .ok (.putfield 135, 3) := by decide +kernel
theorem dX10_readOnce_52 : decode cX10_readOnce 52 = .ok (.aload_n 0, 1) := by decide +kernel
theorem dX10_readOnce_53 : decode cX10_readOnce 53 = .ok (.getfield 12, 3) := by decide +kernel
theorem dX10_readOnce_56 : decode cX10_readOnce 56 = .ok (.aload_n 1, 1) := by decide +kernel
theorem dX10_readOnce_57 : decode cX10_readOnce 57 = .ok (.getfield 126, 3) := by decide +kernel
theorem dX10_readOnce_60 : decode cX10_readOnce 60 = .ok (.iconst 0, 1) := by decide +kernel
theorem dX10_readOnce_61 : decode cX10_readOnce 61 = .ok (.invokevirtual 148, 3) := by decide +kernel
theorem dX10_readOnce_64 : decode cX10_readOnce 64 = .ok (.istore_n 3, 1) := by decide +kernel
theorem dX10_readOnce_65 : decode cX10_readOnce 65 = .ok (.aload_n 1, 1) := by decide +kernel
theorem dX10_readOnce_66 : decode cX10_readOnce 66 = .ok (.getfield 142, 3) := by decide +kernel
theorem dX10_readOnce_69 : decode cX10_readOnce 69 = .ok (.iload_n 2, 1) := by decide +kernel
theorem dX10_readOnce_70 : decode cX10_readOnce 70 = .ok (.aload_n 1, 1) := by decide +kernel
theorem dX10_readOnce_71 : decode cX10_readOnce 71 = .ok (.getfield 126, 3) := by decide +kernel
theorem dX10_readOnce_74 : decode cX10_readOnce 74 = .ok (.getfield 130, 3) := by decide +kernel
theorem dX10_readOnce_77 : decode cX10_readOnce 77 = .ok (.iastore, 1) := by decide +kernel
theorem dX10_readOnce_78 : decode cX10_readOnce 78 = .ok (.iload_n 3, 1) := by decide +kernel
theorem dX10_readOnce_79 : decode cX10_readOnce 79 = .ok (.ireturn, 1) := by decide +kernel
theorem dX10_readSetting_0 : decode cX10_readSetting 0 = .ok (.aload_n 0, 1) := by decide +kernel
theorem dX10_readSetting_1 : decode cX10_readSetting 1 = .ok (.getfield 22, 3) := by decide +kernel
theorem dX10_readSetting_4 : decode cX10_readSetting 4 = .ok (.getfield 45, 3) := by decide +kernel
theorem dX10_readSetting_7 : decode cX10_readSetting 7 = .ok (.istore_n 2, 1) := by decide +kernel
theorem dX10_readSetting_8 : decode cX10_readSetting 8 = .ok (.aload_n 0, 1) := by decide +kernel
theorem dX10_readSetting_9 : decode cX10_readSetting 9 = .ok (.getfield 22, 3) := by decide +kernel
theorem dX10_readSetting_12 : decode cX10_readSetting 12 = .ok (.invokevirtual 102, 3) := by decide +kernel
theorem dX10_readSetting_15 : decode cX10_readSetting 15 = .ok (.aload_n 0, 1) := by decide +kernel
theorem dX10_readSetting_16 : decode cX10_readSetting 16 = .ok (.getfield 22, 3) := by decide +kernel
theorem dX10_readSetting_19 : decode cX10_readSetting 19 = .ok (.iload_n 2, 1) := by decide +kernel
theorem dX10_readSetting_20 : decode cX10_readSetting 20 = .ok (.bipush 14, 2) := by decide +kernel
theorem dX10_readSetting_22 : decode cX10_readSetting 22 = .ok (.if_icmp .ne 8, 3) := by decide +kernel
theorem dX10_readSetting_25 : decode cX10_readSetting 25 = .ok (.bipush 99, 2) := by decide +kernel
theorem dX10_readSetting_27 : decode cX10_readSetting 27 = .ok (.goto 5, 3) := by decide +kernel
theorem dX10_readSetting_30 : decode cX10_readSetting 30 = .ok (.bipush 23, 2) := by decide +kernel
theorem dX10_readSetting_32 : decode cX10_readSetting 32 = .ok (.invokevirtual 91, 3) := by decide +kernel
theorem dX10_readSetting_35 : decode cX10_readSetting 35 = .ok (.istore_n 3, 1) := by decide +kernel
theorem dX10_readSetting_36 : decode cX10_readSetting 36 = .ok (.iload_n 3, 1) := by decide +kernel
theorem dX10_readSetting_37 : decode cX10_readSetting 37 = .ok (.iconst (-1), 1) := by decide +kernel
theorem dX10_readSetting_38 : decode cX10_readSetting 38 = .ok (.if_icmp .ne 5, 3) := by decide +kernel
theorem dX10_readSetting_41 : decode cX10_readSetting 41 = .ok (.iconst 0, 1) := by decide +kernel
theorem dX10_readSetting_42 : decode cX10_readSetting 42 = .ok (.ireturn, 1) := by decide +kernel
theorem dX10_readSetting_43 : decode cX10_readSetting 43 = .ok (.iload_n 2, 1) := by decide +kernel
theorem dX10_readSetting_44 : decode cX10_readSetting 44 = .ok (.bipush 12, 2) := by decide +kernel
theorem dX10_readSetting_46 : decode cX10_readSetting 46 = .ok (.if_icmp .ne 11, 3) := by decide +kernel
theorem dX10_readSetting_49 : decode cX10_readSetting 49 = .ok (.aload_n 1, 1) := by decide +kernel
theorem dX10_readSetting_50 : decode cX10_readSetting 50 = .ok (.iload_n 3, 1) := by decide +kernel
theorem dX10_readSetting_51 : decode cX10_readSetting 51 = .ok (.putfield 151, 3) := by decide +kernel
theorem dX10_readSetting_54 : decode cX10_readSetting 54 = .ok (.goto 22, 3) := by decide +kernel
theorem dX10_readSetting_57 : decode cX10_readSetting 57 = .ok (.iload_n 2, 1) := by decide +kernel
theorem dX10_readSetting_58 : decode cX10_readSetting 58 = .ok (.bipush 13, 2) := by decide +kernel
theorem dX10_readSetting_60 : decode cX10_readSetting 60 = .ok (.if_icmp .ne 11, 3) := by decide +kernel
theorem dX10_readSetting_63 : decode cX10_readSetting 63 = .ok (.aload_n 1, 1) := by decide +kernel
theorem dX10_readSetting_64 : decode cX10_readSetting 64 = .ok (.iload_n 3, 1) := by decide +kernel
theorem dX10_readSetting_65 : decode cX10_readSetting 65 = .ok (.putfield 154, 3) := by decide +kernel
theorem dX10_readSetting_68 : decode cX10_readSetting 68 = .ok (.goto 8, 3) := by decide +kernel
theorem dX10_readSetting_71 : decode cX10_readSetting 71 = .ok (.aload_n 1, 1) := by decide +kernel
theorem dX10_readSetting_72 : decode cX10_readSetting 72 = .ok (.iload_n 3, 1) := by decide +kernel
theorem dX10_readSetting_73 : decode cX10_readSetting 73 = .ok (.putfield 157, 3) := by decide +kernel
theorem dX10_readSetting_76 : decode cX10_readSetting 76 = .ok (.iconst 1, 1) := by decide +kernel
theorem dX10_readSetting_77 : decode cX10_readSetting 77 = .ok (.ireturn, 1) := by decide +kernel
theorem dX10_readNew_0 : decode cX10_readNew 0 = .ok (.aload_n 1, 1) := by decide +kernel
theorem dX10_readNew_1 : decode cX10_readNew 1 = .ok (.getfield 81, 3) := by decide +kernel
theorem dX10_readNew_4 : decode cX10_readNew 4 = .ok (.iload_n 2, 1) := by decide +kernel
theorem dX10_readNew_5 : decode cX10_readNew 5 = .ok (.iaload, 1) := by decide +kernel
theorem dX10_readNew_6 : decode cX10_readNew 6 = .ok (.getstatic 111, 3) := by decide +kernel
theorem dX10_readNew_9 : decode cX10_readNew 9 = .ok (.iload_n 2, 1) := by decide +kernel
theorem dX10_readNew_10 : decode cX10_readNew 10 = .ok (.iaload, 1) := by decide +kernel
theorem dX10_readNew_11 : decode cX10_readNew 11 = .ok (.if_icmp .lt 19, 3) := by decide +kernel
theorem dX10_readNew_14 : decode cX10_readNew 14 = .ok (.aload_n 0, 1) := by decide +kernel
theorem dX10_readNew_15 : decode cX10_readNew 15 = .ok (.getfield 22, 3) := by decide +kernel
theorem dX10_readNew_18 : decode cX10_readNew 18 = .ok (.iconst 5, 1) := by decide +kernel
theorem dX10_readNew_19 : decode cX10_readNew 19 = .ok (.aload_n 0, 1) := by decide +kernel
theorem dX10_readNew_20 : decode cX10_readNew 20 = .ok (.getfield 22, 3) := by decide +kernel
theorem dX10_readNew_23 : decode cX10_readNew 23 = .ok (.getfield 38, 3) := by decide +kernel
theorem dX10_readNew_26 : decode cX10_readNew 26 = .ok (.invokevirtual 41, 3) := by decide +kernel
theorem dX10_readNew_29 : decode cX10_readNew 29 = .ok (.ireturn, 1) := by decide +kernel
theorem dX10_readNew_30 : decode cX10_readNew 30 = .ok (.aload_n 0, 1) := by decide +kernel
theorem dX10_readNew_31 : decode cX10_readNew 31 = .ok (.getfield 22, 3) := by decide +kernel
theorem dX10_readNew_34 : decode cX10_readNew 34 = .ok (.invokevirtual 102, 3) := by decide +kernel
theorem dX10_readNew_37 : decode cX10_readNew 37 = .ok (.aload_n 0, 1) := by decide +kernel
theorem dX10_readNew_38 : decode cX10_readNew 38 = .ok (.getfield 22, 3) := by decide +kernel
theorem dX10_readNew_41 : decode cX10_readNew 41 = .ok (.invokevirtual 160, 3) := by decide +kernel
theorem dX10_readNew_44 : decode cX10_readNew 44 = .ok (.ifCond .ne 5, 3) := by decide +kernel
theorem dX10_readNew_47 : decode cX10_readNew 47 = .ok (.iconst 0, 1) := by decide +kernel
theorem dX10_readNew_48 : decode cX10_readNew 48 = .ok (.ireturn, 1) := by decide +kernel
theorem dX10_readNew_49 : decode cX10_readNew 49 = .ok (.aload_n 1, 1) := by decide +kernel
theorem dX10_readNew_50 : decode cX10_readNew 50 = .ok (.aload_n 0, 1) := by decide +kernel
theorem dX10_readNew_51 : decode cX10_readNew 51 = .ok (.getfield 22, 3) := by decide +kernel
theorem dX10_readNew_54 : decode cX10_readNew 54 = .ok (.getfield 164, 3) := by decide +kernel
theorem dX10_readNew_57 : decode cX10_readNew 57 = .ok (.invokevirtual 167, 3) := by decide +kernel
theorem dX10_readNew_60 : decode cX10_readNew 60 = .ok (.ifCond .eq 19, 3) := by decide +kernel
theorem dX10_readNew_63 : decode cX10_readNew 63 = .ok (.aload_n 0, 1) := by decide +kernel
theorem dX10_readNew_64 : decode cX10_readNew 64 = .ok (.getfield 22, 3) := by decide +kernel
theorem dX10_readNew_67 : decode cX10_readNew 67 = .ok (.iconst 3, 1) := by decide +kernel
theorem dX10_readNew_68 : decode cX10_readNew 68 = .ok (.aload_n 0, 1) := by decide +kernel
theorem dX10_readNew_69 : decode cX10_readNew 69 = .ok (.getfield 22, 3) := by decide +kernel
theorem dX10_readNew_72 : decode cX10_readNew 72 = .ok (.getfield 38, 3) := by decide +kernel
theorem dX10_readNew_75 : decode cX10_readNew 75 = .ok (.invokevirtual 41, 3) := by decide +kernel
theorem dX10_readNew_78 : decode cX10_readNew 78 = .ok (.ireturn, 1) := by decide +kernel
theorem dX10_readNew_79 : decode cX10_readNew 79 = .ok (.aload_n 1, 1) := by decide +kernel
theorem dX10_readNew_80 : decode cX10_readNew 80 = .ok (.getfield 170, 3) := by decide +kernel
theorem dX10_readNew_83 : decode cX10_readNew 83 = .ok (.iload_n 2, 1) := by decide +kernel
theorem dX10_readNew_84 : decode cX10_readNew 84 = .ok (.bipush 8, 2) := by decide +kernel
theorem dX10_readNew_86 : decode cX10_readNew 86 = .ok (.imul, 1) := by decide +kernel
theorem dX10_readNew_87 : decode cX10_readNew 87 = .ok (.aload_n 1, 1) := by decide +kernel
theorem dX10_readNew_88 : decode cX10_readNew 88 = .ok (.getfield 81, 3) := by decide +kernel
theorem dX10_readNew_91 : decode cX10_readNew 91 = .ok (.iload_n 2, 1) := by decide +kernel
theorem dX10_readNew_92 : decode cX10_readNew 92 = .ok (.iaload, 1) := by decide +kernel
theorem dX10_readNew_93 : decode cX10_readNew 93 = .ok (.iadd, 1) := by decide +kernel
theorem dX10_readNew_94 : decode cX10_readNew 94 = .ok (.aload_n 0, 1) := by decide +kernel
theorem dX10_readNew_95 : decode cX10_readNew 95 = .ok (.getfield 22, 3) := by decide +kernel
theorem dX10_readNew_98 : decode cX10_readNew 98 = .ok (.getfield 164, 3) := by decide +kernel
theorem dX10_readNew_101 : decode cX10_readNew 101 = .ok (.iastore, 1) := by decide +kernel
theorem dX10_readNew_102 : decode cX10_readNew 102 = .ok (.aload_n 1, 1) := by decide +kernel
theorem dX10_readNew_103 : decode cX10_readNew 103 = .ok (.getfield 81, 3) := by decide +kernel
theorem dX10_readNew_106 : decode cX10_readNew 106 = .ok (.iload_n 2, 1) := by decide +kernel
theorem dX10_readNew_107 : decode cX10_readNew 107 = .ok (.dup2, 1) := by decide +kernel
theorem dX10_readNew_108 : decode cX10_readNew 108 = .ok (.iaload, 1) := by decide +kernel
theorem dX10_readNew_109 : decode cX10_readNew 109 = .ok (.iconst 1, 1) := by decide +kernel
theorem dX10_readNew_110 : decode cX10_readNew 110 = .ok (.iadd, 1) := by decide +kernel
theorem dX10_readNew_111 : decode cX10_readNew 111 = .ok (.iastore, 1) := by decide +kernel
theorem dX10_readNew_112 : decode cX10_readNew 112 = .ok (.aload_n 0, 1) := by decide +kernel
theorem dX10_readNew_113 : decode cX10_readNew 113 = .ok (.getfield 22, 3) := by decide +kernel
theorem dX10_readNew_116 : decode cX10_readNew 116 = .ok (.invokevirtual 102, 3) := by decide +kernel
theorem dX10_readNew_119 : decode cX10_readNew 119 = .ok (.iconst 1, 1) := by decide +kernel
theorem dX10_readNew_120 : decode cX10_readNew 120 = .ok (.ireturn, 1) := by decide +kernel
theorem dX10_findNamed_0 : decode cX10_findNamed 0 = .ok (.aload_n 0, 1) := by decide +kernel
theorem dX10_findNamed_1 : decode cX10_findNamed 1 = .ok (.getfield 22, 3) := by decide +kernel
theorem dX10_findNamed_4 : decode cX10_findNamed 4 = .ok (.invokevirtual 160, 3) := by decide +kernel
theorem dX10_findNamed_7 : decode cX10_findNamed 7 = .ok (.ifCond .ne 5, 3) := by decide +kernel
theorem dX10_findNamed_10 : decode cX10_findNamed 10 = .ok (.iconst (-1), 1) := by decide +kernel
theorem dX10_findNamed_11 : decode cX10_findNamed 11 = .ok (.ireturn, 1) := by decide +kernel
theorem dX10_findNamed_12 : decode cX10_findNamed 12 = .ok (.aload_n 1, 1) := by decide +kernel
theorem dX10_findNamed_13 : decode cX10_findNamed 13 = .ok (.iload_n 2, 1) := by decide +kernel
theorem dX10_findNamed_14 : decode cX10_findNamed 14 = .ok (.aload_n 0, 1) := by decide +kernel
theorem dX10_findNamed_15 : decode cX10_findNamed 15 = .ok (.getfield 22, 3) := by decide +kernel
theorem dX10_findNamed_18 : decode cX10_findNamed 18 = .ok (.getfield 164, 3) := by decide +kernel
theorem dX10_findNamed_21 : decode cX10_findNamed 21 = .ok (.invokevirtual 173, 3) := by decide +kernel
theorem dX10_findNamed_24 : decode cX10_findNamed 24 = .ok (.istore_n 3, 1) := by decide +kernel
theorem dX10_findNamed_25 : decode cX10_findNamed 25 = .ok (.iload_n 3, 1) := by decide +kernel
theorem dX10_findNamed_26 : decode cX10_findNamed 26 = .ok (.iconst (-1), 1) := by decide +kernel
theorem dX10_findNamed_27 : decode cX10_findNamed 27 = .ok (.if_icmp .ne 19, 3) := by decide +kernel
theorem dX10_findNamed_30 : decode cX10_findNamed 30 = .ok (.aload_n 0, 1) := by decide +kernel
theorem dX10_findNamed_31 : decode cX10_findNamed 31 = .ok (.getfield 22, 3) := by decide +kernel
theorem dX10_findNamed_34 : decode cX10_findNamed 34 = .ok (.iconst 3, 1) := by decide +kernel
theorem dX10_findNamed_35 : decode cX10_findNamed 35 = .ok (.aload_n 0, 1) := by decide +kernel
theorem dX10_findNamed_36 : decode cX10_findNamed 36 = .ok (.getfield 22, 3) := by decide +kernel
theorem dX10_findNamed_39 : decode cX10_findNamed 39 = .ok (.getfield 38, 3) := by decide +kernel
theorem dX10_findNamed_42 : decode cX10_findNamed 42 = .ok (.invokevirtual 41, 3) := by decide +kernel
theorem dX10_findNamed_45 : decode cX10_findNamed 45 = .ok (.pop, 1) := by decide +kernel
theorem dX10_findNamed_46 : decode cX10_findNamed 46 = .ok (.iload_n 3, 1) := by decide +kernel
theorem dX10_findNamed_47 : decode cX10_findNamed 47 = .ok (.ireturn, 1) := by decide +kernel
theorem dX11_init_0 : decode cX11_init 0 = .ok (.aload_n 0, 1) := by decide +kernel
theorem dX11_init_1 : decode cX11_init 1 = .ok (.invokespecial 1, 3) := by decide +kernel
theorem dX11_init_4 : decode cX11_init 4 = .ok (.aload_n 0, 1) := by decide +kernel
theorem dX11_init_5 : decode cX11_init 5 = .ok (.new 7, 3) := by decide +kernel
theorem dX11_init_8 : decode cX11_init 8 = .ok (.dup, 1) := by decide +kernel
theorem dX11_init_9 : decode cX11_init 9 = .ok (.invokespecial 9, 3) := by decide +kernel
theorem dX11_init_12 : decode cX11_init 12 = .ok (.putfield 10, 3) := by decide +kernel
theorem dX11_init_15 : decode cX11_init 15 = .ok (.aload_n 0, 1) := by decide +kernel
theorem dX11_init_16 : decode cX11_init 16 = .ok (.aload_n 0, 1) := by decide +kernel
theorem dX11_init_17 : decode cX11_init 17 = .ok (.getfield 10, 3) := by decide +kernel
theorem dX11_init_20 : decode cX11_init 20 = .ok (.getfield 16, 3) := by decide +kernel
theorem dX11_init_23 : decode cX11_init 23 = .ok (.putfield 20, 3) := by decide +kernel
theorem dX11_init_26 : decode cX11_init 26 = .ok (.aload_n 0, 1) := by decide +kernel
theorem dX11_init_27 : decode cX11_init 27 = .ok (.aload_n 0, 1) := by decide +kernel
theorem dX11_init_28 : decode cX11_init 28 = .ok (.getfield 20, 3) := by decide +kernel
theorem dX11_init_31 : decode cX11_init 31 = .ok (.getfield 21, 3) := by decide +kernel
theorem dX11_init_34 : decode cX11_init 34 = .ok (.putfield 27, 3) := by decide +kernel
theorem dX11_init_37 : decode cX11_init 37 = .ok (.aload_n 0, 1) := by decide +kernel
theorem dX11_init_38 : decode cX11_init 38 = .ok (.aload_n 0, 1) := by decide +kernel
theorem dX11_init_39 : decode cX11_init 39 = .ok (.getfield 27, 3) := by decide +kernel
theorem dX11_init_42 : decode cX11_init 42 = .ok (.getfield 28, 3) := by decide +kernel
theorem dX11_init_45 : decode cX11_init 45 = .ok (.putfield 34, 3) := by decide +kernel
theorem dX11_init_48 : decode cX11_init 48 = .ok (.aload_n 0, 1) := by decide +kernel
theorem dX11_init_49 : decode cX11_init 49 = .ok (.iconst 0, 1) := by decide +kernel
theorem dX11_init_50 : decode cX11_init 50 = .ok (.putfield 37, 3) := by decide +kernel
theorem dX11_init_53 : decode cX11_init 53 = .ok (.aload_n 0, 1) := by decide +kernel
theorem dX11_init_54 : decode cX11_init 54 = .ok (.new 41, 3) := by decide +kernel
theorem dX11_init_57 : decode cX11_init 57 = .ok (.dup, 1) := by decide +kernel
theorem dX11_init_58 : decode cX11_init 58 = .ok (.invokespecial 43, 3) := by decide +kernel
theorem dX11_init_61 : decode cX11_init 61 = .ok (.putfield 44, 3) := by decide +kernel
theorem dX11_init_64 : decode cX11_init 64 = .ok (.aload_n 0, 1) := by decide +kernel
theorem dX11_init_65 : decode cX11_init 65 = .ok (.new 48, 3) := by decide +kernel
theorem dX11_init_68 : decode cX11_init 68 = .ok (.dup, 1) := by decide +kernel
theorem dX11_init_69 : decode cX11_init 69 = .ok (.invokespecial 50, 3) := by decide +kernel
theorem dX11_init_72 : decode cX11_init 72 = .ok (.putfield 51, 3) := by decide +kernel
theorem dX11_init_75 : decode cX11_init 75 = .ok (.aload_n 0, 1) := by decide +kernel
theorem dX11_init_76 : decode cX11_init 76 = .ok (.new 48, 3) := by decide +kernel
theorem dX11_init_79 : decode cX11_init 79 = .ok (.dup, 1) := by decide +kernel
theorem dX11_init_80 : decode cX11_init 80 = .ok (.invokespecial 50, 3) := by decide +kernel
theorem dX11_init_83 : decode cX11_init 83 = .ok (.putfield 55, 3) := by decide +kernel
theorem dX11_init_86 : decode cX11_init 86 = .ok (.aload_n 0, 1) := by decide +kernel
theorem dX11_init_87 : decode cX11_init 87 = .ok (.new 58, 3) := by decide +kernel
theorem dX11_init_90 : decode cX11_init 90 = .ok (.dup, 1) := by decide +kernel
theorem dX11_init_91 : decode cX11_init 91 = .ok (.invokespecial 60, 3) := by decide +kernel
theorem dX11_init_94 : decode cX11_init 94 = .ok (.putfield 61, 3) := by decide +kernel
theorem dX11_init_97 : decode cX11_init 97 = .ok (.aload_n 0, 1) := by decide +kernel
theorem dX11_init_98 : decode cX11_init 98 = .ok (.new 65, 3) := by decide +kernel
theorem dX11_init_101 : decode cX11_init 101 = .ok (.dup, 1) := by decide +kernel
theorem dX11_init_102 : decode cX11_init 102 = .ok (.invokespecial 67, 3) := by decide +kernel
theorem dX11_init_105 : decode cX11_init 105 = .ok (.putfield 68, 3) := by decide +kernel
theorem dX11_init_108 : decode cX11_init 108 = .ok (.aload_n 0, 1) := by decide +kernel
theorem dX11_init_109 : decode cX11_init 109 = .ok (.new 65, 3) := by decide +kernel
theorem dX11_init_112 : decode cX11_init 112 = .ok (.dup, 1) := by decide +kernel
theorem dX11_init_113 : decode cX11_init 113 = .ok (.invokespecial 67, 3) := by decide +kernel
theorem dX11_init_116 : decode cX11_init 116 = .ok (.putfield 72, 3) := by decide +kernel
theorem dX11_init_119 : decode cX11_init 119 = .ok (.aload_n 0, 1) := by decide +kernel
theorem dX11_init_120 : decode cX11_init 120 = .ok (.bipush 9, 2) := by decide +kernel
theorem dX11_init_122 : decode cX11_init 122 = .ok (.anewarray 65, 3) := by decide +kernel
theorem dX11_init_125 : decode cX11_init 125 = .ok (.putfield 75, 3) := by decide +kernel
theorem dX11_init_128 : decode cX11_init 128 = .ok (.aload_n 0, 1) := by decide +kernel
theorem dX11_init_129 : decode cX11_init 129 = .ok (.new 79, 3) := by decide +kernel
theorem dX11_init_132 : decode cX11_init 132 = .ok (.dup, 1) := by decide +kernel
theorem dX11_init_133 : decode cX11_init 133 = .ok (.invokespecial 81, 3) := by decide +kernel
theorem dX11_init_136 : decode cX11_init 136 = .ok (.putfield 82, 3) := by decide +kernel
theorem dX11_init_139 : decode cX11_init 139 = .ok (.aload_n 0, 1) := by decide +kernel
theorem dX11_init_140 : decode cX11_init 140 = .ok (.new 86, 3) := by decide +kernel
theorem dX11_init_143 : decode cX11_init 143 = .ok (.dup, 1) := by decide +kernel
theorem dX11_init_144 : decode cX11_init 144 = .ok (.invokespecial 88, 3) := by decide +kernel
theorem dX11_init_147 : decode cX11_init 147 = .ok (.putfield 89, 3) := by decide +kernel
theorem dX11_init_150 : decode cX11_init 150 = .ok (.aload_n 0, 1) := by decide +kernel
theorem dX11_init_151 : decode cX11_init 151 = .ok (.new 93, 3) := by decide +kernel
theorem dX11_init_154 : decode cX11_init 154 = .ok (.dup, 1) := by decide +kernel
theorem dX11_init_155 : decode cX11_init 155 = .ok (.invokespecial 95, 3) := by decide +kernel
theorem dX11_init_158 : decode cX11_init 158 = .ok (.putfield 96, 3) := by decide +kernel
theorem dX11_init_161 : decode cX11_init 161 = .ok (.aload_n 0, 1) := by decide +kernel
theorem dX11_init_162 : decode cX11_init 162 = .ok (.lconst 1, 1) := by decide +kernel
theorem dX11_init_163 : decode cX11_init 163 = .ok (.putfield 100, 3) := by decide +kernel
theorem dX11_init_166 : decode cX11_init 166 = .ok (.aload_n 0, 1) := by decide +kernel
theorem dX11_init_167 : decode cX11_init 167 = .ok (.bipush 6, 2) := by decide +kernel
theorem dX11_init_169 : decode cX11_init 169 = .ok (.newarray .int, 2) := by decide +kernel
theorem dX11_init_171 : decode cX11_init 171 = .ok (.putfield 104, 3) := by decide +kernel
theorem dX11_init_174 : decode cX11_init 174 = .ok (.iconst 0, 1) := by decide +kernel
theorem dX11_init_175 : decode cX11_init 175 = .ok (.istore_n 1, 1) := by decide +kernel
theorem dX11_init_176 : decode cX11_init 176 = .ok (.iload_n 1, 1) := by decide +kernel
theorem dX11_init_177 : decode cX11_init 177 = .ok (.aload_n 0, 1) := by decide +kernel
theorem dX11_init_178 : decode cX11_init 178 = .ok (.getfield 75, 3) := by decide +kernel
theorem dX11_init_181 : decode cX11_init 181 = .ok (.arraylength, 1) := by decide +kernel
theorem dX11_init_182 : decode cX11_init 182 = .ok (.if_icmp .ge 22, 3) := by decide +kernel
theorem dX11_init_185 : decode cX11_init 185 = .ok (.aload_n 0, 1) := by decide +kernel
theorem dX11_init_186 : decode cX11_init 186 = .ok (.getfield 75, 3) := by decide +kernel
theorem dX11_init_189 : decode cX11_init 189 = .ok (.iload_n 1, 1) := by decide +kernel
theorem dX11_init_190 : decode cX11_init 190 = .ok (.new 65, 3) := by decide +kernel
theorem dX11_init_193 : decode cX11_init 193 = .ok (.dup, 1) := by decide +kernel
theorem dX11_init_194 : decode cX11_init 194 = .ok (.invokespecial 67, 3) := by decide +kernel
theorem dX11_init_197 : decode cX11_init 197 = .ok (.aastore, 1) := by decide +kernel
theorem dX11_init_198 : decode cX11_init 198 = .ok (.iinc 1 1, 3) := by decide +kernel
theorem dX11_init_201 : decode cX11_init 201 = .ok (.goto (-25), 3) := by decide +kernel
theorem dX11_init_204 : decode cX11_init 204 = .ok (.return_, 1) := by decide +kernel
theorem dX11_feed_0 : decode cX11_feed 0 = .ok (.aload_n 0, 1) := by decide +kernel
theorem dX11_feed_1 : decode cX11_feed 1 = .ok (.getfield 37, 3) := by decide +kernel
theorem dX11_feed_4 : decode cX11_feed 4 = .ok (.bipush 20, 2) := by decide +kernel
theorem dX11_feed_6 : decode cX11_feed 6 = .ok (.iadd, 1) := by decide +kernel
theorem dX11_feed_7 : decode cX11_feed 7 = .ok (.sipush 1600, 3) := by decide +kernel
theorem dX11_feed_10 : decode cX11_feed 10 = .ok (.if_icmp .le 9, 3) := by decide +kernel
theorem dX11_feed_13 : decode cX11_feed 13 = .ok (.aload_n 0, 1) := by decide +kernel
theorem dX11_feed_14 : decode cX11_feed 14 = .ok (.iconst 0, 1) := by decide +kernel
theorem dX11_feed_15 : decode cX11_feed 15 = .ok (.invokevirtual 107, 3) := by decide +kernel
theorem dX11_feed_18 : decode cX11_feed 18 = .ok (.ireturn, 1) := by decide +kernel
theorem dX11_feed_19 : decode cX11_feed 19 = .ok (.aload_n 0, 1) := by decide +kernel
theorem dX11_feed_20 : decode cX11_feed 20 = .ok (.iload_n 1, 1) := by decide +kernel
theorem dX11_feed_21 : decode cX11_feed 21 = .ok (.invokevirtual 111, 3) := by decide +kernel
theorem dX11_feed_24 : decode cX11_feed 24 = .ok (.aload_n 0, 1) := by decide +kernel
theorem dX11_feed_25 : decode cX11_feed 25 = .ok (.iload_n 2, 1) := by decide +kernel
theorem dX11_feed_26 : decode cX11_feed 26 = .ok (.invokevirtual 111, 3) := by decide +kernel
theorem dX11_feed_29 : decode cX11_feed 29 = .ok (.aload_n 0, 1) := by decide +kernel
theorem dX11_feed_30 : decode cX11_feed 30 = .ok (.iload_n 3, 1) := by decide +kernel
theorem dX11_feed_31 : decode cX11_feed 31 = .ok (.invokevirtual 111, 3) := by decide +kernel
theorem dX11_feed_34 : decode cX11_feed 34 = .ok (.aload_n 0, 1) := by decide +kernel
theorem dX11_feed_35 : decode cX11_feed 35 = .ok (.iload 4, 2) := by decide +kernel
theorem dX11_feed_37 : decode cX11_feed 37 = .ok (.invokevirtual 111, 3) := by decide +kernel
theorem dX11_feed_40 : decode cX11_feed 40 = .ok (.aload_n 0, 1) := by decide +kernel
theorem dX11_feed_41 : decode cX11_feed 41 = .ok (.iload 5, 2) := by decide +kernel
theorem dX11_feed_43 : decode cX11_feed 43 = .ok (.invokevirtual 111, 3) := by decide +kernel
theorem dX11_feed_46 : decode cX11_feed 46 = .ok (.aload_n 0, 1) := by decide +kernel
theorem dX11_feed_47 : decode cX11_feed 47 = .ok (.getfield 37, 3) := by decide +kernel
theorem dX11_feed_50 : decode cX11_feed 50 = .ok (.ireturn, 1) := by decide +kernel
theorem dX11_end_0 : decode cX11_end 0 = .ok (.iload_n 1, 1) := by decide +kernel
theorem dX11_end_1 : decode cX11_end 1 = .ok (.ifCond .lt 11, 3) := by decide +kernel
theorem dX11_end_4 : decode cX11_end 4 = .ok (.iload_n 1, 1) := by decide +kernel
theorem dX11_end_5 : decode cX11_end 5 = .ok (.aload_n 0, 1) := by decide +kernel
theorem dX11_end_6 : decode cX11_end 6 = .ok (.getfield 37, 3) := by decide +kernel
theorem dX11_end_9 : decode cX11_end 9 = .ok (.if_icmp .le 11, 3) := by decide +kernel
theorem dX11_end_12 : decode cX11_end 12 = .ok (.aload_n 0, 1) := by decide +kernel
theorem dX11_end_13 : decode cX11_end 13 = .ok (.iconst 0, 1) := by decide +kernel
theorem dX11_end_14 : decode cX11_end 14 = .ok (.invokevirtual 107, 3) := by decide +kernel
theorem dX11_end_17 : decode cX11_end 17 = .ok (.pop, 1) := by decide +kernel
theorem dX11_end_18 : decode cX11_end 18 = .ok (.iconst 0, 1) := by decide +kernel
theorem dX11_end_19 : decode cX11_end 19 = .ok (.ireturn, 1) := by decide +kernel
theorem dX11_end_20 : decode cX11_end 20 = .ok (.aload_n 0, 1) := by decide +kernel
theorem dX11_end_21 : decode cX11_end 21 = .ok (.iload_n 1, 1) := by decide +kernel
theorem dX11_end_22 : decode cX11_end 22 = .ok (.putfield 37, 3) := by decide +kernel
theorem dX11_end_25 : decode cX11_end 25 = .ok (.iconst 1, 1) := by decide +kernel
theorem dX11_end_26 : decode cX11_end 26 = .ok (.ireturn, 1) := by decide +kernel
theorem dX11_town_0 : decode cX11_town 0 = .ok (.aload_n 0, 1) := by decide +kernel
theorem dX11_town_1 : decode cX11_town 1 = .ok (.getfield 10, 3) := by decide +kernel
theorem dX11_town_4 : decode cX11_town 4 = .ok (.aload_n 0, 1) := by decide +kernel
theorem dX11_town_5 : decode cX11_town 5 = .ok (.getfield 37, 3) := by decide +kernel
theorem dX11_town_8 : decode cX11_town 8 = .ok (.aload_n 0, 1) := by decide +kernel
theorem dX11_town_9 : decode cX11_town 9 = .ok (.getfield 55, 3) := by decide +kernel
theorem dX11_town_12 : decode cX11_town 12 = .ok (.invokevirtual 115, 3) := by decide +kernel
theorem dX11_town_15 : decode cX11_town 15 = .ok (.istore_n 1, 1) := by decide +kernel
theorem dX11_town_16 : decode cX11_town 16 = .ok (.aload_n 0, 1) := by decide +kernel
theorem dX11_town_17 : decode cX11_town 17 = .ok (.iconst 0, 1) := by decide +kernel
theorem dX11_town_18 : decode cX11_town 18 = .ok (.putfield 37, 3) := by decide +kernel
theorem dX11_town_21 : decode cX11_town 21 = .ok (.iload_n 1, 1) := by decide +kernel
theorem dX11_town_22 : decode cX11_town 22 = .ok (.ifCond .ne 9, 3) := by decide +kernel
theorem dX11_town_25 : decode cX11_town 25 = .ok (.aload_n 0, 1) := by decide +kernel
theorem dX11_town_26 : decode cX11_town 26 = .ok (.iconst 1, 1) := by decide +kernel
theorem dX11_town_27 : decode cX11_town 27 = .ok (.invokevirtual 107, 3) := by decide +kernel
theorem dX11_town_30 : decode cX11_town 30 = .ok (.ireturn, 1) := by decide +kernel
theorem dX11_town_31 : decode cX11_town 31 = .ok (.aload_n 0, 1) := by decide +kernel
theorem dX11_town_32 : decode cX11_town 32 = .ok (.getfield 51, 3) := by decide +kernel
theorem dX11_town_35 : decode cX11_town 35 = .ok (.astore_n 2, 1) := by decide +kernel
theorem dX11_town_36 : decode cX11_town 36 = .ok (.aload_n 0, 1) := by decide +kernel
theorem dX11_town_37 : decode cX11_town 37 = .ok (.aload_n 0, 1) := by decide +kernel
theorem dX11_town_38 : decode cX11_town 38 = .ok (.getfield 55, 3) := by decide +kernel
theorem dX11_town_41 : decode cX11_town 41 = .ok (.putfield 51, 3) := by decide +kernel
theorem dX11_town_44 : decode cX11_town 44 = .ok (.aload_n 0, 1) := by decide +kernel
theorem dX11_town_45 : decode cX11_town 45 = .ok (.aload_n 2, 1) := by decide +kernel
theorem dX11_town_46 : decode cX11_town 46 = .ok (.putfield 55, 3) := by decide +kernel
theorem dX11_town_49 : decode cX11_town 49 = .ok (.aload_n 0, 1) := by decide +kernel
theorem dX11_town_50 : decode cX11_town 50 = .ok (.getfield 68, 3) := by decide +kernel
theorem dX11_town_53 : decode cX11_town 53 = .ok (.aload_n 0, 1) := by decide +kernel
theorem dX11_town_54 : decode cX11_town 54 = .ok (.getfield 51, 3) := by decide +kernel
theorem dX11_town_57 : decode cX11_town 57 = .ok (.invokevirtual 119, 3) := by decide +kernel
theorem dX11_town_60 : decode cX11_town 60 = .ok (.aload_n 0, 1) := by decide +kernel
theorem dX11_town_61 : decode cX11_town 61 = .ok (.getfield 89, 3) := by decide +kernel
theorem dX11_town_64 : decode cX11_town 64 = .ok (.iconst 0, 1) := by decide +kernel
theorem dX11_town_65 : decode cX11_town 65 = .ok (.putfield 123, 3) := by decide +kernel
theorem dX11_town_68 : decode cX11_town 68 = .ok (.aload_n 0, 1) := by decide +kernel
theorem dX11_town_69 : decode cX11_town 69 = .ok (.getfield 82, 3) := by decide +kernel
theorem dX11_town_72 : decode cX11_town 72 = .ok (.iconst 0, 1) := by decide +kernel
theorem dX11_town_73 : decode cX11_town 73 = .ok (.putfield 126, 3) := by decide +kernel
theorem dX11_town_76 : decode cX11_town 76 = .ok (.aload_n 0, 1) := by decide +kernel
theorem dX11_town_77 : decode cX11_town 77 = .ok (.getfield 51, 3) := by decide +kernel
theorem dX11_town_80 : decode cX11_town 80 = .ok (.getfield 129, 3) := by decide +kernel
theorem dX11_town_83 : decode cX11_town 83 = .ok (.ireturn, 1) := by decide +kernel
theorem dX11_fault_0 : decode cX11_fault 0 = .ok (.iload_n 1, 1) := by decide +kernel
theorem dX11_fault_1 : decode cX11_fault 1 = .ok (.lookupswitch 43 #[(0, 27), (1, 35)], 27) := by decide +kernel
theorem dX11_fault_28 : decode cX11_fault 28 = .ok (.aload_n 0, 1) := by decide +kernel
theorem dX11_fault_29 : decode cX11_fault 29 = .ok (.getfield 27, 3) := by decide +kernel
theorem dX11_fault_32 : decode cX11_fault 32 = .ok (.getfield 132, 3) := by decide +kernel
theorem dX11_fault_35 : decode cX11_fault 35 = .ok (.ireturn, 1) := by decide +kernel
theorem dX11_fault_36 : decode cX11_fault 36 = .ok (.aload_n 0, 1) := by decide +kernel
theorem dX11_fault_37 : decode cX11_fault 37 = .ok (.getfield 27, 3) := by decide +kernel
theorem dX11_fault_40 : decode cX11_fault 40 = .ok (.getfield 135, 3) := by decide +kernel
theorem dX11_fault_43 : decode cX11_fault 43 = .ok (.ireturn, 1) := by decide +kernel
theorem dX11_fault_44 : decode cX11_fault 44 = .ok (.iconst (-1), 1) := by decide +kernel
theorem dX11_fault_45 : decode cX11_fault 45 = .ok (.ireturn, 1) := by decide +kernel
theorem dX11_has_0 : decode cX11_has 0 = .ok (.iload_n 1, 1) := by decide +kernel
theorem dX11_has_1 : decode cX11_has 1 = .ok (.ifCond .lt 18, 3) := by decide +kernel
theorem dX11_has_4 : decode cX11_has 4 = .ok (.iload_n 1, 1) := by decide +kernel
theorem dX11_has_5 : decode cX11_has 5 = .ok (.iconst 4, 1) := by decide +kernel
theorem dX11_has_6 : decode cX11_has 6 = .ok (.if_icmp .gt 13, 3) := by decide +kernel
theorem dX11_has_9 : decode cX11_has 9 = .ok (.aload_n 0, 1) := by decide +kernel
theorem dX11_has_10 : decode cX11_has 10 = .ok (.getfield 51, 3) := by decide +kernel
theorem dX11_has_13 : decode cX11_has 13 = .ok (.getfield 138, 3) := by decide +kernel
theorem dX11_has_16 : decode cX11_has 16 = .ok (.iload_n 1, 1) := by decide +kernel
theorem dX11_has_17 : decode cX11_has 17 = .ok (.iaload, 1) := by decide +kernel
theorem dX11_has_18 : decode cX11_has 18 = .ok (.ireturn, 1) := by decide +kernel
theorem dX11_has_19 : decode cX11_has 19 = .ok (.iload_n 1, 1) := by decide +kernel
theorem dX11_has_20 : decode cX11_has 20 = .ok (.tableswitch 61 5 8 #[32, 40, 45, 53], 32) := by decide +kernel
theorem dX11_has_52 : decode cX11_has 52 = .ok (.aload_n 0, 1) := by decide +kernel
theorem dX11_has_53 : decode cX11_has 53 = .ok (.getfield 68, 3) := by decide +kernel
theorem dX11_has_56 : decode cX11_has 56 = .ok (.getfield 141, 3) := by decide +kernel
theorem dX11_has_59 : decode cX11_has 59 = .ok (.ireturn, 1) := by decide +kernel
theorem dX11_has_60 : decode cX11_has 60 = .ok (.aload_n 0, 1) := by decide +kernel
theorem dX11_has_61 : decode cX11_has 61 = .ok (.invokevirtual 144, 3) := by decide +kernel
theorem dX11_has_64 : decode cX11_has 64 = .ok (.ireturn, 1) := by decide +kernel
theorem dX11_has_65 : decode cX11_has 65 = .ok (.aload_n 0, 1) := by decide +kernel
theorem dX11_has_66 : decode cX11_has 66 = .ok (.getfield 89, 3) := by decide +kernel
theorem dX11_has_69 : decode cX11_has 69 = .ok (.getfield 123, 3) := by decide +kernel
theorem dX11_has_72 : decode cX11_has 72 = .ok (.ireturn, 1) := by decide +kernel
theorem dX11_has_73 : decode cX11_has 73 = .ok (.aload_n 0, 1) := by decide +kernel
theorem dX11_has_74 : decode cX11_has 74 = .ok (.getfield 82, 3) := by decide +kernel
theorem dX11_has_77 : decode cX11_has 77 = .ok (.getfield 126, 3) := by decide +kernel
theorem dX11_has_80 : decode cX11_has 80 = .ok (.ireturn, 1) := by decide +kernel
theorem dX11_has_81 : decode cX11_has 81 = .ok (.iconst (-1), 1) := by decide +kernel
theorem dX11_has_82 : decode cX11_has 82 = .ok (.ireturn, 1) := by decide +kernel
theorem dX11_letter_0 : decode cX11_letter 0 = .ok (.iload_n 1, 1) := by decide +kernel
theorem dX11_letter_1 : decode cX11_letter 1 = .ok (.ifCond .lt 18, 3) := by decide +kernel
theorem dX11_letter_4 : decode cX11_letter 4 = .ok (.iload_n 1, 1) := by decide +kernel
theorem dX11_letter_5 : decode cX11_letter 5 = .ok (.iconst 3, 1) := by decide +kernel
theorem dX11_letter_6 : decode cX11_letter 6 = .ok (.if_icmp .gt 13, 3) := by decide +kernel
theorem dX11_letter_9 : decode cX11_letter 9 = .ok (.iload_n 3, 1) := by decide +kernel
theorem dX11_letter_10 : decode cX11_letter 10 = .ok (.ifCond .lt 9, 3) := by decide +kernel
theorem dX11_letter_13 : decode cX11_letter 13 = .ok (.iload_n 3, 1) := by decide +kernel
theorem dX11_letter_14 : decode cX11_letter 14 = .ok (.bipush 6, 2) := by decide +kernel
theorem dX11_letter_16 : decode cX11_letter 16 = .ok (.if_icmp .lt 5, 3) := by decide +kernel
theorem dX11_letter_19 : decode cX11_letter 19 = .ok (.iconst (-1), 1) := by decide +kernel
theorem dX11_letter_20 : decode cX11_letter 20 = .ok (.ireturn, 1) := by decide +kernel
theorem dX11_letter_21 : decode cX11_letter 21 = .ok (.iload_n 1, 1) := by decide +kernel
theorem dX11_letter_22 : decode cX11_letter 22 = .ok (.iconst 3, 1) := by decide +kernel
theorem dX11_letter_23 : decode cX11_letter 23 = .ok (.if_icmp .ne 7, 3) := by decide +kernel
theorem dX11_letter_26 : decode cX11_letter 26 = .ok (.iconst 4, 1) := by decide +kernel
theorem dX11_letter_27 : decode cX11_letter 27 = .ok (.goto 4, 3) := by decide +kernel
theorem dX11_letter_30 : decode cX11_letter 30 = .ok (.iload_n 1, 1) := by decide +kernel
theorem dX11_letter_31 : decode cX11_letter 31 = .ok (.istore 4, 2) := by decide +kernel
theorem dX11_letter_33 : decode cX11_letter 33 = .ok (.aload_n 0, 1) := by decide +kernel
theorem dX11_letter_34 : decode cX11_letter 34 = .ok (.iload 4, 2) := by decide +kernel
theorem dX11_letter_36 : decode cX11_letter 36 = .ok (.iload_n 2, 1) := by decide +kernel
theorem dX11_letter_37 : decode cX11_letter 37 = .ok (.invokevirtual 148, 3) := by decide +kernel
theorem dX11_letter_40 : decode cX11_letter 40 = .ok (.ifCond .ne 5, 3) := by decide +kernel
theorem dX11_letter_43 : decode cX11_letter 43 = .ok (.iconst (-1), 1) := by decide +kernel
theorem dX11_letter_44 : decode cX11_letter 44 = .ok (.ireturn, 1) := by decide +kernel
theorem dX11_letter_45 : decode cX11_letter 45 = .ok (.aload_n 0, 1) := by decide +kernel
theorem dX11_letter_46 : decode cX11_letter 46 = .ok (.getfield 51, 3) := by decide +kernel
theorem dX11_letter_49 : decode cX11_letter 49 = .ok (.getfield 152, 3) := by decide +kernel
theorem dX11_letter_52 : decode cX11_letter 52 = .ok (.iload 4, 2) := by decide +kernel
theorem dX11_letter_54 : decode cX11_letter 54 = .ok (.bipush 8, 2) := by decide +kernel
theorem dX11_letter_56 : decode cX11_letter 56 = .ok (.imul, 1) := by decide +kernel
theorem dX11_letter_57 : decode cX11_letter 57 = .ok (.iload_n 2, 1) := by decide +kernel
theorem dX11_letter_58 : decode cX11_letter 58 = .ok (.iadd, 1) := by decide +kernel
theorem dX11_letter_59 : decode cX11_letter 59 = .ok (.iaload, 1) := by decide +kernel
theorem dX11_letter_60 : decode cX11_letter 60 = .ok (.iconst 5, 1) := by decide +kernel
theorem dX11_letter_61 : decode cX11_letter 61 = .ok (.iload_n 3, 1) := by decide +kernel
theorem dX11_letter_62 : decode cX11_letter 62 = .ok (.imul, 1) := by decide +kernel
theorem dX11_letter_63 : decode cX11_letter 63 = .ok (.ishr, 1) := by decide +kernel
theorem dX11_letter_64 : decode cX11_letter 64 = .ok (.bipush 31, 2) := by decide +kernel
theorem dX11_letter_66 : decode cX11_letter 66 = .ok (.iand, 1) := by decide +kernel
theorem dX11_letter_67 : decode cX11_letter 67 = .ok (.ireturn, 1) := by decide +kernel
theorem dX11_feels_0 : decode cX11_feels 0 = .ok (.aload_n 0, 1) := by decide +kernel
theorem dX11_feels_1 : decode cX11_feels 1 = .ok (.iconst 1, 1) := by decide +kernel
theorem dX11_feels_2 : decode cX11_feels 2 = .ok (.iload_n 1, 1) := by decide +kernel
theorem dX11_feels_3 : decode cX11_feels 3 = .ok (.iload_n 2, 1) := by decide +kernel
theorem dX11_feels_4 : decode cX11_feels 4 = .ok (.invokevirtual 155, 3) := by decide +kernel
theorem dX11_feels_7 : decode cX11_feels 7 = .ok (.ifCond .ne 5, 3) := by decide +kernel
theorem dX11_feels_10 : decode cX11_feels 10 = .ok (.iconst (-1), 1) := by decide +kernel
theorem dX11_feels_11 : decode cX11_feels 11 = .ok (.ireturn, 1) := by decide +kernel
theorem dX11_feels_12 : decode cX11_feels 12 = .ok (.iload_n 3, 1) := by decide +kernel
theorem dX11_feels_13 : decode cX11_feels 13 = .ok (.lookupswitch 55 #[(0, 27), (1, 41)], 27) := by decide +kernel
theorem dX11_feels_40 : decode cX11_feels 40 = .ok (.aload_n 0, 1) := by decide +kernel
theorem dX11_feels_41 : decode cX11_feels 41 = .ok (.getfield 68, 3) := by decide +kernel
theorem dX11_feels_44 : decode cX11_feels 44 = .ok (.getfield 159, 3) := by decide +kernel
theorem dX11_feels_47 : decode cX11_feels 47 = .ok (.iload_n 1, 1) := by decide +kernel
theorem dX11_feels_48 : decode cX11_feels 48 = .ok (.iconst 4, 1) := by decide +kernel
theorem dX11_feels_49 : decode cX11_feels 49 = .ok (.imul, 1) := by decide +kernel
theorem dX11_feels_50 : decode cX11_feels 50 = .ok (.iload_n 2, 1) := by decide +kernel
theorem dX11_feels_51 : decode cX11_feels 51 = .ok (.iadd, 1) := by decide +kernel
theorem dX11_feels_52 : decode cX11_feels 52 = .ok (.iaload, 1) := by decide +kernel
theorem dX11_feels_53 : decode cX11_feels 53 = .ok (.ireturn, 1) := by decide +kernel
theorem dX11_feels_54 : decode cX11_feels 54 = .ok (.aload_n 0, 1) := by decide +kernel
theorem dX11_feels_55 : decode cX11_feels 55 = .ok (.getfield 68, 3) := by decide +kernel
theorem dX11_feels_58 : decode cX11_feels 58 = .ok (.getfield 162, 3) := by decide +kernel
theorem dX11_feels_61 : decode cX11_feels 61 = .ok (.iload_n 1, 1) := by decide +kernel
theorem dX11_feels_62 : decode cX11_feels 62 = .ok (.iconst 4, 1) := by decide +kernel
theorem dX11_feels_63 : decode cX11_feels 63 = .ok (.imul, 1) := by decide +kernel
theorem dX11_feels_64 : decode cX11_feels 64 = .ok (.iload_n 2, 1) := by decide +kernel
theorem dX11_feels_65 : decode cX11_feels 65 = .ok (.iadd, 1) := by decide +kernel
theorem dX11_feels_66 : decode cX11_feels 66 = .ok (.iaload, 1) := by decide +kernel
theorem dX11_feels_67 : decode cX11_feels 67 = .ok (.ireturn, 1) := by decide +kernel
theorem dX11_feels_68 : decode cX11_feels 68 = .ok (.iconst (-1), 1) := by decide +kernel
theorem dX11_feels_69 : decode cX11_feels 69 = .ok (.ireturn, 1) := by decide +kernel
theorem dX11_bread_0 : decode cX11_bread 0 = .ok (.aload_n 0, 1) := by decide +kernel
theorem dX11_bread_1 : decode cX11_bread 1 = .ok (.iconst 2, 1) := by decide +kernel
theorem dX11_bread_2 : decode cX11_bread 2 = .ok (.iload_n 1, 1) := by decide +kernel
theorem dX11_bread_3 : decode cX11_bread 3 = .ok (.iload_n 2, 1) := by decide +kernel
theorem dX11_bread_4 : decode cX11_bread 4 = .ok (.invokevirtual 155, 3) := by decide +kernel
theorem dX11_bread_7 : decode cX11_bread 7 = .ok (.ifCond .eq 19, 3) := by decide +kernel
theorem dX11_bread_10 : decode cX11_bread 10 = .ok (.aload_n 0, 1) := by decide +kernel
theorem dX11_bread_11 : decode cX11_bread 11 = .ok (.getfield 68, 3) := by decide +kernel
theorem dX11_bread_14 : decode cX11_bread 14 = .ok (.getfield 165, 3) := by decide +kernel
theorem dX11_bread_17 : decode cX11_bread 17 = .ok (.iload_n 1, 1) := by decide +kernel
theorem dX11_bread_18 : decode cX11_bread 18 = .ok (.iconst 4, 1) := by decide +kernel
theorem dX11_bread_19 : decode cX11_bread 19 = .ok (.imul, 1) := by decide +kernel
theorem dX11_bread_20 : decode cX11_bread 20 = .ok (.iload_n 2, 1) := by decide +kernel
theorem dX11_bread_21 : decode cX11_bread 21 = .ok (.iadd, 1) := by decide +kernel
theorem dX11_bread_22 : decode cX11_bread 22 = .ok (.iaload, 1) := by decide +kernel
theorem dX11_bread_23 : decode cX11_bread 23 = .ok (.goto 4, 3) := by decide +kernel
theorem dX11_bread_26 : decode cX11_bread 26 = .ok (.iconst (-1), 1) := by decide +kernel
theorem dX11_bread_27 : decode cX11_bread 27 = .ok (.ireturn, 1) := by decide +kernel
theorem dX11_loaf_0 : decode cX11_loaf 0 = .ok (.aload_n 0, 1) := by decide +kernel
theorem dX11_loaf_1 : decode cX11_loaf 1 = .ok (.iconst 2, 1) := by decide +kernel
theorem dX11_loaf_2 : decode cX11_loaf 2 = .ok (.iload_n 1, 1) := by decide +kernel
theorem dX11_loaf_3 : decode cX11_loaf 3 = .ok (.invokevirtual 148, 3) := by decide +kernel
theorem dX11_loaf_6 : decode cX11_loaf 6 = .ok (.ifCond .ne 5, 3) := by decide +kernel
theorem dX11_loaf_9 : decode cX11_loaf 9 = .ok (.iconst (-1), 1) := by decide +kernel
theorem dX11_loaf_10 : decode cX11_loaf 10 = .ok (.ireturn, 1) := by decide +kernel
theorem dX11_loaf_11 : decode cX11_loaf 11 = .ok (.iload_n 2, 1) := by decide +kernel
theorem dX11_loaf_12 : decode cX11_loaf 12 = .ok (.tableswitch 57 0 2 #[28, 38, 48], 28) := by decide +kernel
theorem dX11_loaf_40 : decode cX11_loaf 40 = .ok (.aload_n 0, 1) := by decide +kernel
theorem dX11_loaf_41 : decode cX11_loaf 41 = .ok (.getfield 51, 3) := by decide +kernel
theorem dX11_loaf_44 : decode cX11_loaf 44 = .ok (.getfield 168, 3) := by decide +kernel
theorem dX11_loaf_47 : decode cX11_loaf 47 = .ok (.iload_n 1, 1) := by decide +kernel
theorem dX11_loaf_48 : decode cX11_loaf 48 = .ok (.iaload, 1) := by decide +kernel
theorem dX11_loaf_49 : decode cX11_loaf 49 = .ok (.ireturn, 1) := by decide +kernel
theorem dX11_loaf_50 : decode cX11_loaf 50 = .ok (.aload_n 0, 1) := by decide +kernel
theorem dX11_loaf_51 : decode cX11_loaf 51 = .ok (.getfield 68, 3) := by decide +kernel
theorem dX11_loaf_54 : decode cX11_loaf 54 = .ok (.getfield 171, 3) := by decide +kernel
theorem dX11_loaf_57 : decode cX11_loaf 57 = .ok (.iload_n 1, 1) := by decide +kernel
theorem dX11_loaf_58 : decode cX11_loaf 58 = .ok (.iaload, 1) := by decide +kernel
theorem dX11_loaf_59 : decode cX11_loaf 59 = .ok (.ireturn, 1) := by decide +kernel
theorem dX11_loaf_60 : decode cX11_loaf 60 = .ok (.aload_n 0, 1) := by decide +kernel
theorem dX11_loaf_61 : decode cX11_loaf 61 = .ok (.getfield 51, 3) := by decide +kernel
theorem dX11_loaf_64 : decode cX11_loaf 64 = .ok (.iload_n 1, 1) := by decide +kernel
theorem dX11_loaf_65 : decode cX11_loaf 65 = .ok (.invokevirtual 174, 3) := by decide +kernel
theorem dX11_loaf_68 : decode cX11_loaf 68 = .ok (.ireturn, 1) := by decide +kernel
theorem dX11_loaf_69 : decode cX11_loaf 69 = .ok (.iconst (-1), 1) := by decide +kernel
theorem dX11_loaf_70 : decode cX11_loaf 70 = .ok (.ireturn, 1) := by decide +kernel
theorem dX11_does_0 : decode cX11_does 0 = .ok (.aload_n 0, 1) := by decide +kernel
theorem dX11_does_1 : decode cX11_does 1 = .ok (.iconst 1, 1) := by decide +kernel
theorem dX11_does_2 : decode cX11_does 2 = .ok (.iload_n 1, 1) := by decide +kernel
theorem dX11_does_3 : decode cX11_does 3 = .ok (.invokevirtual 148, 3) := by decide +kernel
theorem dX11_does_6 : decode cX11_does 6 = .ok (.ifCond .eq 12, 3) := by decide +kernel
theorem dX11_does_9 : decode cX11_does 9 = .ok (.aload_n 0, 1) := by decide +kernel
theorem dX11_does_10 : decode cX11_does 10 = .ok (.iconst 4, 1) := by decide +kernel
theorem dX11_does_11 : decode cX11_does 11 = .ok (.iload_n 2, 1) := by decide +kernel
theorem dX11_does_12 : decode cX11_does 12 = .ok (.invokevirtual 148, 3) := by decide +kernel
theorem dX11_does_15 : decode cX11_does 15 = .ok (.ifCond .ne 5, 3) := by decide +kernel
theorem dX11_does_18 : decode cX11_does 18 = .ok (.iconst (-1), 1) := by decide +kernel
theorem dX11_does_19 : decode cX11_does 19 = .ok (.ireturn, 1) := by decide +kernel
theorem dX11_does_20 : decode cX11_does 20 = .ok (.aload_n 0, 1) := by decide +kernel
theorem dX11_does_21 : decode cX11_does 21 = .ok (.getfield 61, 3) := by decide +kernel
theorem dX11_does_24 : decode cX11_does 24 = .ok (.aload_n 0, 1) := by decide +kernel
theorem dX11_does_25 : decode cX11_does 25 = .ok (.getfield 51, 3) := by decide +kernel
theorem dX11_does_28 : decode cX11_does 28 = .ok (.aload_n 0, 1) := by decide +kernel
theorem dX11_does_29 : decode cX11_does 29 = .ok (.getfield 68, 3) := by decide +kernel
theorem dX11_does_32 : decode cX11_does 32 = .ok (.iload_n 1, 1) := by decide +kernel
theorem dX11_does_33 : decode cX11_does 33 = .ok (.invokevirtual 177, 3) := by decide +kernel
theorem dX11_does_36 : decode cX11_does 36 = .ok (.iload_n 2, 1) := by decide +kernel
theorem dX11_does_37 : decode cX11_does 37 = .ok (.ishr, 1) := by decide +kernel
theorem dX11_does_38 : decode cX11_does 38 = .ok (.iconst 1, 1) := by decide +kernel
theorem dX11_does_39 : decode cX11_does 39 = .ok (.iand, 1) := by decide +kernel
theorem dX11_does_40 : decode cX11_does 40 = .ok (.ireturn, 1) := by decide +kernel
theorem dX11_later_0 : decode cX11_later 0 = .ok (.aload_n 0, 1) := by decide +kernel
theorem dX11_later_1 : decode cX11_later 1 = .ok (.iconst 1, 1) := by decide +kernel
theorem dX11_later_2 : decode cX11_later 2 = .ok (.iload_n 1, 1) := by decide +kernel
theorem dX11_later_3 : decode cX11_later 3 = .ok (.iload_n 2, 1) := by decide +kernel
theorem dX11_later_4 : decode cX11_later 4 = .ok (.invokevirtual 155, 3) := by decide +kernel
theorem dX11_later_7 : decode cX11_later 7 = .ok (.ifCond .eq 11, 3) := by decide +kernel
theorem dX11_later_10 : decode cX11_later 10 = .ok (.aload_n 0, 1) := by decide +kernel
theorem dX11_later_11 : decode cX11_later 11 = .ok (.iload_n 3, 1) := by decide +kernel
theorem dX11_later_12 : decode cX11_later 12 = .ok (.invokevirtual 181, 3) := by decide +kernel
theorem dX11_later_15 : decode cX11_later 15 = .ok (.ifCond .ne 5, 3) := by decide +kernel
theorem dX11_later_18 : decode cX11_later 18 = .ok (.iconst (-1), 1) := by decide +kernel
theorem dX11_later_19 : decode cX11_later 19 = .ok (.ireturn, 1) := by decide +kernel
theorem dX11_later_20 : decode cX11_later 20 = .ok (.aload_n 0, 1) := by decide +kernel
theorem dX11_later_21 : decode cX11_later 21 = .ok (.getfield 72, 3) := by decide +kernel
theorem dX11_later_24 : decode cX11_later 24 = .ok (.aload_n 0, 1) := by decide +kernel
theorem dX11_later_25 : decode cX11_later 25 = .ok (.getfield 68, 3) := by decide +kernel
theorem dX11_later_28 : decode cX11_later 28 = .ok (.invokevirtual 185, 3) := by decide +kernel
theorem dX11_later_31 : decode cX11_later 31 = .ok (.aload_n 0, 1) := by decide +kernel
theorem dX11_later_32 : decode cX11_later 32 = .ok (.getfield 61, 3) := by decide +kernel
theorem dX11_later_35 : decode cX11_later 35 = .ok (.aload_n 0, 1) := by decide +kernel
theorem dX11_later_36 : decode cX11_later 36 = .ok (.getfield 51, 3) := by decide +kernel
theorem dX11_later_39 : decode cX11_later 39 = .ok (.aload_n 0, 1) := by decide +kernel
theorem dX11_later_40 : decode cX11_later 40 = .ok (.getfield 72, 3) := by decide +kernel
theorem dX11_later_43 : decode cX11_later 43 = .ok (.iload_n 3, 1) := by decide +kernel
theorem dX11_later_44 : decode cX11_later 44 = .ok (.invokevirtual 189, 3) := by decide +kernel
theorem dX11_later_47 : decode cX11_later 47 = .ok (.aload_n 0, 1) := by decide +kernel
theorem dX11_later_48 : decode cX11_later 48 = .ok (.getfield 72, 3) := by decide +kernel
theorem dX11_later_51 : decode cX11_later 51 = .ok (.getfield 159, 3) := by decide +kernel
theorem dX11_later_54 : decode cX11_later 54 = .ok (.iload_n 1, 1) := by decide +kernel
theorem dX11_later_55 : decode cX11_later 55 = .ok (.iconst 4, 1) := by decide +kernel
theorem dX11_later_56 : decode cX11_later 56 = .ok (.imul, 1) := by decide +kernel
theorem dX11_later_57 : decode cX11_later 57 = .ok (.iload_n 2, 1) := by decide +kernel
theorem dX11_later_58 : decode cX11_later 58 = .ok (.iadd, 1) := by decide +kernel
theorem dX11_later_59 : decode cX11_later 59 = .ok (.iaload, 1) := by decide +kernel
theorem dX11_later_60 : decode cX11_later 60 = .ok (.ireturn, 1) := by decide +kernel
theorem dX11_first_0 : decode cX11_first 0 = .ok (.iload_n 1, 1) := by decide +kernel
theorem dX11_first_1 : decode cX11_first 1 = .ok (.ifCond .lt 8, 3) := by decide +kernel
theorem dX11_first_4 : decode cX11_first 4 = .ok (.iload_n 1, 1) := by decide +kernel
theorem dX11_first_5 : decode cX11_first 5 = .ok (.iconst 2, 1) := by decide +kernel
theorem dX11_first_6 : decode cX11_first 6 = .ok (.if_icmp .le 5, 3) := by decide +kernel
theorem dX11_first_9 : decode cX11_first 9 = .ok (.iconst (-1), 1) := by decide +kernel
theorem dX11_first_10 : decode cX11_first 10 = .ok (.ireturn, 1) := by decide +kernel
theorem dX11_first_11 : decode cX11_first 11 = .ok (.aload_n 0, 1) := by decide +kernel
theorem dX11_first_12 : decode cX11_first 12 = .ok (.getfield 72, 3) := by decide +kernel
theorem dX11_first_15 : decode cX11_first 15 = .ok (.aload_n 0, 1) := by decide +kernel
theorem dX11_first_16 : decode cX11_first 16 = .ok (.getfield 68, 3) := by decide +kernel
theorem dX11_first_19 : decode cX11_first 19 = .ok (.invokevirtual 185, 3) := by decide +kernel
theorem dX11_first_22 : decode cX11_first 22 = .ok (.iconst 0, 1) := by decide +kernel
theorem dX11_first_23 : decode cX11_first 23 = .ok (.istore_n 2, 1) := by decide +kernel
theorem dX11_first_24 : decode cX11_first 24 = .ok (.iload_n 2, 1) := by decide +kernel
theorem dX11_first_25 : decode cX11_first 25 = .ok (.sipush 200, 3) := by decide +kernel
theorem dX11_first_28 : decode cX11_first 28 = .ok (.if_icmp .gt 103, 3) := by decide +kernel
theorem dX11_first_31 : decode cX11_first 31 = .ok (.aload_n 0, 1) := by decide +kernel
theorem dX11_first_32 : decode cX11_first 32 = .ok (.iload_n 2, 1) := by decide +kernel
theorem dX11_first_33 : decode cX11_first 33 = .ok (.invokevirtual 181, 3) := by decide +kernel
theorem dX11_first_36 : decode cX11_first 36 = .ok (.ifCond .eq 95, 3) := by decide +kernel
theorem dX11_first_39 : decode cX11_first 39 = .ok (.iload_n 2, 1) := by decide +kernel
theorem dX11_first_40 : decode cX11_first 40 = .ok (.ifCond .le 18, 3) := by decide +kernel
theorem dX11_first_43 : decode cX11_first 43 = .ok (.aload_n 0, 1) := by decide +kernel
theorem dX11_first_44 : decode cX11_first 44 = .ok (.getfield 61, 3) := by decide +kernel
theorem dX11_first_47 : decode cX11_first 47 = .ok (.aload_n 0, 1) := by decide +kernel
theorem dX11_first_48 : decode cX11_first 48 = .ok (.getfield 51, 3) := by decide +kernel
theorem dX11_first_51 : decode cX11_first 51 = .ok (.aload_n 0, 1) := by decide +kernel
theorem dX11_first_52 : decode cX11_first 52 = .ok (.getfield 72, 3) := by decide +kernel
theorem dX11_first_55 : decode cX11_first 55 = .ok (.invokevirtual 193, 3) := by decide +kernel
theorem dX11_first_58 : decode cX11_first 58 = .ok (.iconst 0, 1) := by decide +kernel
theorem dX11_first_59 : decode cX11_first 59 = .ok (.istore_n 3, 1) := by decide +kernel
theorem dX11_first_60 : decode cX11_first 60 = .ok (.iload_n 3, 1) := by decide +kernel
theorem dX11_first_61 : decode cX11_first 61 = .ok (.aload_n 0, 1) := by decide +kernel
theorem dX11_first_62 : decode cX11_first 62 = .ok (.getfield 51, 3) := by decide +kernel
theorem dX11_first_65 : decode cX11_first 65 = .ok (.getfield 138, 3) := by decide +kernel
theorem dX11_first_68 : decode cX11_first 68 = .ok (.iconst 1, 1) := by decide +kernel
theorem dX11_first_69 : decode cX11_first 69 = .ok (.iaload, 1) := by decide +kernel
theorem dX11_first_70 : decode cX11_first 70 = .ok (.if_icmp .ge 55, 3) := by decide +kernel
theorem dX11_first_73 : decode cX11_first 73 = .ok (.aload_n 0, 1) := by decide +kernel
theorem dX11_first_74 : decode cX11_first 74 = .ok (.getfield 61, 3) := by decide +kernel
theorem dX11_first_77 : decode cX11_first 77 = .ok (.aload_n 0, 1) := by decide +kernel
theorem dX11_first_78 : decode cX11_first 78 = .ok (.getfield 51, 3) := by decide +kernel
theorem dX11_first_81 : decode cX11_first 81 = .ok (.aload_n 0, 1) := by decide +kernel
theorem dX11_first_82 : decode cX11_first 82 = .ok (.getfield 72, 3) := by decide +kernel
theorem dX11_first_85 : decode cX11_first 85 = .ok (.iload_n 3, 1) := by decide +kernel
theorem dX11_first_86 : decode cX11_first 86 = .ok (.invokevirtual 177, 3) := by decide +kernel
theorem dX11_first_89 : decode cX11_first 89 = .ok (.istore 4, 2) := by decide +kernel
theorem dX11_first_91 : decode cX11_first 91 = .ok (.iload 4, 2) := by decide +kernel
theorem dX11_first_93 : decode cX11_first 93 = .ok (.ifCond .eq 26, 3) := by decide +kernel
theorem dX11_first_96 : decode cX11_first 96 = .ok (.iload_n 1, 1) := by decide +kernel
theorem dX11_first_97 : decode cX11_first 97 = .ok (.ifCond .ne 7, 3) := by decide +kernel
theorem dX11_first_100 : decode cX11_first 100 = .ok (.iload_n 2, 1) := by decide +kernel
theorem dX11_first_101 : decode cX11_first 101 = .ok (.goto 17, 3) := by decide +kernel
theorem dX11_first_104 : decode cX11_first 104 = .ok (.iload_n 1, 1) := by decide +kernel
theorem dX11_first_105 : decode cX11_first 105 = .ok (.iconst 1, 1) := by decide +kernel
theorem dX11_first_106 : decode cX11_first 106 = .ok (.if_icmp .ne 7, 3) := by decide +kernel
theorem dX11_first_109 : decode cX11_first 109 = .ok (.iload_n 3, 1) := by decide +kernel
theorem dX11_first_110 : decode cX11_first 110 = .ok (.goto 8, 3) := by decide +kernel
theorem dX11_first_113 : decode cX11_first 113 = .ok (.iload 4, 2) := by decide +kernel
theorem dX11_first_115 : decode cX11_first 115 = .ok (.invokestatic 197, 3) := by decide +kernel
theorem dX11_first_118 : decode cX11_first 118 = .ok (.ireturn, 1) := by decide +kernel
theorem dX11_first_119 : decode cX11_first 119 = .ok (.iinc 3 1, 3) := by decide +kernel
theorem dX11_first_122 : decode cX11_first 122 = .ok (.goto (-62), 3) := by decide +kernel
theorem dX11_first_125 : decode cX11_first 125 = .ok (.iinc 2 1, 3) := by decide +kernel
theorem dX11_first_128 : decode cX11_first 128 = .ok (.goto (-104), 3) := by decide +kernel
theorem dX11_first_131 : decode cX11_first 131 = .ok (.iconst (-1), 1) := by decide +kernel
theorem dX11_first_132 : decode cX11_first 132 = .ok (.ireturn, 1) := by decide +kernel
theorem dX11_often_0 : decode cX11_often 0 = .ok (.aload_n 0, 1) := by decide +kernel
theorem dX11_often_1 : decode cX11_often 1 = .ok (.iconst 1, 1) := by decide +kernel
theorem dX11_often_2 : decode cX11_often 2 = .ok (.iload_n 1, 1) := by decide +kernel
theorem dX11_often_3 : decode cX11_often 3 = .ok (.invokevirtual 148, 3) := by decide +kernel
theorem dX11_often_6 : decode cX11_often 6 = .ok (.ifCond .eq 24, 3) := by decide +kernel
theorem dX11_often_9 : decode cX11_often 9 = .ok (.aload_n 0, 1) := by decide +kernel
theorem dX11_often_10 : decode cX11_often 10 = .ok (.iconst 4, 1) := by decide +kernel
theorem dX11_often_11 : decode cX11_often 11 = .ok (.iload_n 2, 1) := by decide +kernel
theorem dX11_often_12 : decode cX11_often 12 = .ok (.invokevirtual 148, 3) := by decide +kernel
theorem dX11_often_15 : decode cX11_often 15 = .ok (.ifCond .eq 15, 3) := by decide +kernel
theorem dX11_often_18 : decode cX11_often 18 = .ok (.iload_n 3, 1) := by decide +kernel
theorem dX11_often_19 : decode cX11_often 19 = .ok (.iconst 1, 1) := by decide +kernel
theorem dX11_often_20 : decode cX11_often 20 = .ok (.if_icmp .lt 10, 3) := by decide +kernel
theorem dX11_often_23 : decode cX11_often 23 = .ok (.iload_n 3, 1) := by decide +kernel
theorem dX11_often_24 : decode cX11_often 24 = .ok (.sipush 200, 3) := by decide +kernel
theorem dX11_often_27 : decode cX11_often 27 = .ok (.if_icmp .le 5, 3) := by decide +kernel
theorem dX11_often_30 : decode cX11_often 30 = .ok (.iconst (-1), 1) := by decide +kernel
theorem dX11_often_31 : decode cX11_often 31 = .ok (.ireturn, 1) := by decide +kernel
theorem dX11_often_32 : decode cX11_often 32 = .ok (.iconst 0, 1) := by decide +kernel
theorem dX11_often_33 : decode cX11_often 33 = .ok (.istore 4, 2) := by decide +kernel
theorem dX11_often_35 : decode cX11_often 35 = .ok (.aload_n 0, 1) := by decide +kernel
theorem dX11_often_36 : decode cX11_often 36 = .ok (.getfield 72, 3) := by decide +kernel
theorem dX11_often_39 : decode cX11_often 39 = .ok (.aload_n 0, 1) := by decide +kernel
theorem dX11_often_40 : decode cX11_often 40 = .ok (.getfield 68, 3) := by decide +kernel
theorem dX11_often_43 : decode cX11_often 43 = .ok (.invokevirtual 185, 3) := by decide +kernel
theorem dX11_often_46 : decode cX11_often 46 = .ok (.iconst 0, 1) := by decide +kernel
theorem dX11_often_47 : decode cX11_often 47 = .ok (.istore 5, 2) := by decide +kernel
theorem dX11_often_49 : decode cX11_often 49 = .ok (.iload 5, 2) := by decide +kernel
theorem dX11_often_51 : decode cX11_often 51 = .ok (.iload_n 3, 1) := by decide +kernel
theorem dX11_often_52 : decode cX11_often 52 = .ok (.if_icmp .ge 63, 3) := by decide +kernel
theorem dX11_often_55 : decode cX11_often 55 = .ok (.aload_n 0, 1) := by decide +kernel
theorem dX11_often_56 : decode cX11_often 56 = .ok (.iload 5, 2) := by decide +kernel
theorem dX11_often_58 : decode cX11_often 58 = .ok (.invokevirtual 181, 3) := by decide +kernel
theorem dX11_often_61 : decode cX11_often 61 = .ok (.ifCond .eq 54, 3) := by decide +kernel
theorem dX11_often_64 : decode cX11_often 64 = .ok (.iload 5, 2) := by decide +kernel
theorem dX11_often_66 : decode cX11_often 66 = .ok (.ifCond .le 18, 3) := by decide +kernel
theorem dX11_often_69 : decode cX11_often 69 = .ok (.aload_n 0, 1) := by decide +kernel
theorem dX11_often_70 : decode cX11_often 70 = .ok (.getfield 61, 3) := by decide +kernel
theorem dX11_often_73 : decode cX11_often 73 = .ok (.aload_n 0, 1) := by decide +kernel
theorem dX11_often_74 : decode cX11_often 74 = .ok (.getfield 51, 3) := by decide +kernel
theorem dX11_often_77 : decode cX11_often 77 = .ok (.aload_n 0, 1) := by decide +kernel
theorem dX11_often_78 : decode cX11_often 78 = .ok (.getfield 72, 3) := by decide +kernel
theorem dX11_often_81 : decode cX11_often 81 = .ok (.invokevirtual 193, 3) := by decide +kernel
theorem dX11_often_84 : decode cX11_often 84 = .ok (.iload 4, 2) := by decide +kernel
theorem dX11_often_86 : decode cX11_often 86 = .ok (.aload_n 0, 1) := by decide +kernel
theorem dX11_often_87 : decode cX11_often 87 = .ok (.getfield 61, 3) := by decide +kernel
theorem dX11_often_90 : decode cX11_often 90 = .ok (.aload_n 0, 1) := by decide +kernel
theorem dX11_often_91 : decode cX11_often 91 = .ok (.getfield 51, 3) := by decide +kernel
theorem dX11_often_94 : decode cX11_often 94 = .ok (.aload_n 0, 1) := by decide +kernel
theorem dX11_often_95 : decode cX11_often 95 = .ok (.getfield 72, 3) := by decide +kernel
theorem dX11_often_98 : decode cX11_often 98 = .ok (.iload_n 1, 1) := by decide +kernel
theorem dX11_often_99 : decode cX11_often 99 = .ok (.invokevirtual 177, 3) := by decide +kernel
theorem dX11_often_102 : decode cX11_often 102 = .ok (.iload_n 2, 1) := by decide +kernel
theorem dX11_often_103 : decode cX11_often 103 = .ok (.ishr, 1) := by decide +kernel
theorem dX11_often_104 : decode cX11_often 104 = .ok (.iconst 1, 1) := by decide +kernel
theorem dX11_often_105 : decode cX11_often 105 = .ok (.iand, 1) := by decide +kernel
theorem dX11_often_106 : decode cX11_often 106 = .ok (.iadd, 1) := by decide +kernel
theorem dX11_often_107 : decode cX11_often 107 = .ok (.istore 4, 2) := by decide +kernel
theorem dX11_often_109 : decode cX11_often 109 = .ok (.iinc 5 1, 3) := by decide +kernel
theorem dX11_often_112 : decode cX11_often 112 = .ok (.goto (-63), 3) := by decide +kernel
theorem dX11_often_115 : decode cX11_often 115 = .ok (.iload 4, 2) := by decide +kernel
theorem dX11_often_117 : decode cX11_often 117 = .ok (.ireturn, 1) := by decide +kernel
theorem dX11_again_0 : decode cX11_again 0 = .ok (.iload_n 1, 1) := by decide +kernel
theorem dX11_again_1 : decode cX11_again 1 = .ok (.ifCond .eq 10, 3) := by decide +kernel
theorem dX11_again_4 : decode cX11_again 4 = .ok (.iload_n 1, 1) := by decide +kernel
theorem dX11_again_5 : decode cX11_again 5 = .ok (.iconst 1, 1) := by decide +kernel
theorem dX11_again_6 : decode cX11_again 6 = .ok (.if_icmp .eq 5, 3) := by decide +kernel
theorem dX11_again_9 : decode cX11_again 9 = .ok (.iconst (-1), 1) := by decide +kernel
theorem dX11_again_10 : decode cX11_again 10 = .ok (.ireturn, 1) := by decide +kernel
theorem dX11_again_11 : decode cX11_again 11 = .ok (.aload_n 0, 1) := by decide +kernel
theorem dX11_again_12 : decode cX11_again 12 = .ok (.getfield 75, 3) := by decide +kernel
theorem dX11_again_15 : decode cX11_again 15 = .ok (.iconst 0, 1) := by decide +kernel
theorem dX11_again_16 : decode cX11_again 16 = .ok (.aaload, 1) := by decide +kernel
theorem dX11_again_17 : decode cX11_again 17 = .ok (.aload_n 0, 1) := by decide +kernel
theorem dX11_again_18 : decode cX11_again 18 = .ok (.getfield 68, 3) := by decide +kernel
theorem dX11_again_21 : decode cX11_again 21 = .ok (.invokevirtual 185, 3) := by decide +kernel
theorem dX11_again_24 : decode cX11_again 24 = .ok (.iconst 1, 1) := by decide +kernel
theorem dX11_again_25 : decode cX11_again 25 = .ok (.istore_n 2, 1) := by decide +kernel
theorem dX11_again_26 : decode cX11_again 26 = .ok (.iload_n 2, 1) := by decide +kernel
theorem dX11_again_27 : decode cX11_again 27 = .ok (.aload_n 0, 1) := by decide +kernel
theorem dX11_again_28 : decode cX11_again 28 = .ok (.getfield 75, 3) := by decide +kernel
theorem dX11_again_31 : decode cX11_again 31 = .ok (.arraylength, 1) := by decide +kernel
theorem dX11_again_32 : decode cX11_again 32 = .ok (.if_icmp .ge 99, 3) := by decide +kernel
theorem dX11_again_35 : decode cX11_again 35 = .ok (.aload_n 0, 1) := by decide +kernel
theorem dX11_again_36 : decode cX11_again 36 = .ok (.iload_n 2, 1) := by decide +kernel
theorem dX11_again_37 : decode cX11_again 37 = .ok (.bipush 24, 2) := by decide +kernel
theorem dX11_again_39 : decode cX11_again 39 = .ok (.imul, 1) := by decide +kernel
theorem dX11_again_40 : decode cX11_again 40 = .ok (.invokevirtual 181, 3) := by decide +kernel
theorem dX11_again_43 : decode cX11_again 43 = .ok (.ifCond .eq 88, 3) := by decide +kernel
theorem dX11_again_46 : decode cX11_again 46 = .ok (.aload_n 0, 1) := by decide +kernel
theorem dX11_again_47 : decode cX11_again 47 = .ok (.getfield 75, 3) := by decide +kernel
theorem dX11_again_50 : decode cX11_again 50 = .ok (.iload_n 2, 1) := by decide +kernel
theorem dX11_again_51 : decode cX11_again 51 = .ok (.aaload, 1) := by decide +kernel
theorem dX11_again_52 : decode cX11_again 52 = .ok (.aload_n 0, 1) := by decide +kernel
theorem dX11_again_53 : decode cX11_again 53 = .ok (.getfield 75, 3) := by decide +kernel
theorem dX11_again_56 : decode cX11_again 56 = .ok (.iload_n 2, 1) := by decide +kernel
theorem dX11_again_57 : decode cX11_again 57 = .ok (.iconst 1, 1) := by decide +kernel
theorem dX11_again_58 : decode cX11_again 58 = .ok (.isub, 1) := by decide +kernel
theorem dX11_again_59 : decode cX11_again 59 = .ok (.aaload, 1) := by decide +kernel
theorem dX11_again_60 : decode cX11_again 60 = .ok (.invokevirtual 185, 3) := by decide +kernel
theorem dX11_again_63 : decode cX11_again 63 = .ok (.aload_n 0, 1) := by decide +kernel
theorem dX11_again_64 : decode cX11_again 64 = .ok (.getfield 61, 3) := by decide +kernel
theorem dX11_again_67 : decode cX11_again 67 = .ok (.aload_n 0, 1) := by decide +kernel
theorem dX11_again_68 : decode cX11_again 68 = .ok (.getfield 51, 3) := by decide +kernel
theorem dX11_again_71 : decode cX11_again 71 = .ok (.aload_n 0, 1) := by decide +kernel
theorem dX11_again_72 : decode cX11_again 72 = .ok (.getfield 75, 3) := by decide +kernel
theorem dX11_again_75 : decode cX11_again 75 = .ok (.iload_n 2, 1) := by decide +kernel
theorem dX11_again_76 : decode cX11_again 76 = .ok (.aaload, 1) := by decide +kernel
theorem dX11_again_77 : decode cX11_again 77 = .ok (.bipush 24, 2) := by decide +kernel
theorem dX11_again_79 : decode cX11_again 79 = .ok (.invokevirtual 189, 3) := by decide +kernel
theorem dX11_again_82 : decode cX11_again 82 = .ok (.iconst 0, 1) := by decide +kernel
theorem dX11_again_83 : decode cX11_again 83 = .ok (.istore_n 3, 1) := by decide +kernel
theorem dX11_again_84 : decode cX11_again 84 = .ok (.iload_n 3, 1) := by decide +kernel
theorem dX11_again_85 : decode cX11_again 85 = .ok (.iload_n 2, 1) := by decide +kernel
theorem dX11_again_86 : decode cX11_again 86 = .ok (.if_icmp .ge 39, 3) := by decide +kernel
theorem dX11_again_89 : decode cX11_again 89 = .ok (.aload_n 0, 1) := by decide +kernel
theorem dX11_again_90 : decode cX11_again 90 = .ok (.getfield 75, 3) := by decide +kernel
theorem dX11_again_93 : decode cX11_again 93 = .ok (.iload_n 2, 1) := by decide +kernel
theorem dX11_again_94 : decode cX11_again 94 = .ok (.aaload, 1) := by decide +kernel
theorem dX11_again_95 : decode cX11_again 95 = .ok (.aload_n 0, 1) := by decide +kernel
theorem dX11_again_96 : decode cX11_again 96 = .ok (.getfield 75, 3) := by decide +kernel
theorem dX11_again_99 : decode cX11_again 99 = .ok (.iload_n 3, 1) := by decide +kernel
theorem dX11_again_100 : decode cX11_again 100 = .ok (.aaload, 1) := by decide +kernel
theorem dX11_again_101 : decode cX11_again 101 = .ok (.invokevirtual 200, 3) := by decide +kernel
theorem dX11_again_104 : decode cX11_again 104 = .ok (.ifCond .eq 15, 3) := by decide +kernel
theorem dX11_again_107 : decode cX11_again 107 = .ok (.iload_n 1, 1) := by decide +kernel
theorem dX11_again_108 : decode cX11_again 108 = .ok (.ifCond .ne 7, 3) := by decide +kernel
theorem dX11_again_111 : decode cX11_again 111 = .ok (.iload_n 2, 1) := by decide +kernel
theorem dX11_again_112 : decode cX11_again 112 = .ok (.goto 6, 3) := by decide +kernel
theorem dX11_again_115 : decode cX11_again 115 = .ok (.iload_n 2, 1) := by decide +kernel
theorem dX11_again_116 : decode cX11_again 116 = .ok (.iload_n 3, 1) := by decide +kernel
theorem dX11_again_117 : decode cX11_again 117 = .ok (.isub, 1) := by decide +kernel
theorem dX11_again_118 : decode cX11_again 118 = .ok (.ireturn, 1) := by decide +kernel
theorem dX11_again_119 : decode cX11_again 119 = .ok (.iinc 3 1, 3) := by decide +kernel
theorem dX11_again_122 : decode cX11_again 122 = .ok (.goto (-38), 3) := by decide +kernel
theorem dX11_again_125 : decode cX11_again 125 = .ok (.iinc 2 1, 3) := by decide +kernel
theorem dX11_again_128 : decode cX11_again 128 = .ok (.goto (-102), 3) := by decide +kernel
theorem dX11_again_131 : decode cX11_again 131 = .ok (.iconst (-1), 1) := by decide +kernel
theorem dX11_again_132 : decode cX11_again 132 = .ok (.ireturn, 1) := by decide +kernel
theorem dX11_hands_0 : decode cX11_hands 0 = .ok (.aload_n 0, 1) := by decide +kernel
theorem dX11_hands_1 : decode cX11_hands 1 = .ok (.iconst 2, 1) := by decide +kernel
theorem dX11_hands_2 : decode cX11_hands 2 = .ok (.iload_n 1, 1) := by decide +kernel
theorem dX11_hands_3 : decode cX11_hands 3 = .ok (.invokevirtual 148, 3) := by decide +kernel
theorem dX11_hands_6 : decode cX11_hands 6 = .ok (.ifCond .eq 41, 3) := by decide +kernel
theorem dX11_hands_9 : decode cX11_hands 9 = .ok (.aload_n 0, 1) := by decide +kernel
theorem dX11_hands_10 : decode cX11_hands 10 = .ok (.iconst 1, 1) := by decide +kernel
theorem dX11_hands_11 : decode cX11_hands 11 = .ok (.iload_n 2, 1) := by decide +kernel
theorem dX11_hands_12 : decode cX11_hands 12 = .ok (.iload_n 3, 1) := by decide +kernel
theorem dX11_hands_13 : decode cX11_hands 13 = .ok (.invokevirtual 155, 3) := by decide +kernel
theorem dX11_hands_16 : decode cX11_hands 16 = .ok (.ifCond .eq 31, 3) := by decide +kernel
theorem dX11_hands_19 : decode cX11_hands 19 = .ok (.aload_n 0, 1) := by decide +kernel
theorem dX11_hands_20 : decode cX11_hands 20 = .ok (.iload 4, 2) := by decide +kernel
theorem dX11_hands_22 : decode cX11_hands 22 = .ok (.invokevirtual 181, 3) := by decide +kernel
theorem dX11_hands_25 : decode cX11_hands 25 = .ok (.ifCond .eq 22, 3) := by decide +kernel
theorem dX11_hands_28 : decode cX11_hands 28 = .ok (.iload 5, 2) := by decide +kernel
theorem dX11_hands_30 : decode cX11_hands 30 = .ok (.invokestatic 204, 3) := by decide +kernel
theorem dX11_hands_33 : decode cX11_hands 33 = .ok (.ifCond .eq 14, 3) := by decide +kernel
theorem dX11_hands_36 : decode cX11_hands 36 = .ok (.iload 6, 2) := by decide +kernel
theorem dX11_hands_38 : decode cX11_hands 38 = .ok (.ifCond .lt 9, 3) := by decide +kernel
theorem dX11_hands_41 : decode cX11_hands 41 = .ok (.iload 6, 2) := by decide +kernel
theorem dX11_hands_43 : decode cX11_hands 43 = .ok (.iconst 1, 1) := by decide +kernel
theorem dX11_hands_44 : decode cX11_hands 44 = .ok (.if_icmp .le 5, 3) := by decide +kernel
theorem dX11_hands_47 : decode cX11_hands 47 = .ok (.iconst (-1), 1) := by decide +kernel
theorem dX11_hands_48 : decode cX11_hands 48 = .ok (.ireturn, 1) := by decide +kernel
theorem dX11_hands_49 : decode cX11_hands 49 = .ok (.iconst (-1), 1) := by decide +kernel
theorem dX11_hands_50 : decode cX11_hands 50 = .ok (.istore 7, 2) := by decide +kernel
theorem dX11_hands_52 : decode cX11_hands 52 = .ok (.iconst (-1), 1) := by decide +kernel
theorem dX11_hands_53 : decode cX11_hands 53 = .ok (.istore 8, 2) := by decide +kernel
theorem dX11_hands_55 : decode cX11_hands 55 = .ok (.iconst 1, 1) := by decide +kernel
theorem dX11_hands_56 : decode cX11_hands 56 = .ok (.aload_n 0, 1) := by decide +kernel
theorem dX11_hands_57 : decode cX11_hands 57 = .ok (.getfield 51, 3) := by decide +kernel
theorem dX11_hands_60 : decode cX11_hands 60 = .ok (.getfield 138, 3) := by decide +kernel
theorem dX11_hands_63 : decode cX11_hands 63 = .ok (.iconst 1, 1) := by decide +kernel
theorem dX11_hands_64 : decode cX11_hands 64 = .ok (.iaload, 1) := by decide +kernel
theorem dX11_hands_65 : decode cX11_hands 65 = .ok (.ishl, 1) := by decide +kernel
theorem dX11_hands_66 : decode cX11_hands 66 = .ok (.istore 9, 2) := by decide +kernel
theorem dX11_hands_68 : decode cX11_hands 68 = .ok (.iconst 1, 1) := by decide +kernel
theorem dX11_hands_69 : decode cX11_hands 69 = .ok (.istore 10, 2) := by decide +kernel
theorem dX11_hands_71 : decode cX11_hands 71 = .ok (.iload 10, 2) := by decide +kernel
theorem dX11_hands_73 : decode cX11_hands 73 = .ok (.iload 9, 2) := by decide +kernel
theorem dX11_hands_75 : decode cX11_hands 75 = .ok (.if_icmp .ge 131, 3) := by decide +kernel
theorem dX11_hands_78 : decode cX11_hands 78 = .ok (.iload 10, 2) := by decide +kernel
theorem dX11_hands_80 : decode cX11_hands 80 = .ok (.invokestatic 207, 3) := by decide +kernel
theorem dX11_hands_83 : decode cX11_hands 83 = .ok (.iconst 3, 1) := by decide +kernel
theorem dX11_hands_84 : decode cX11_hands 84 = .ok (.if_icmp .le 6, 3) := by decide +kernel
theorem dX11_hands_87 : decode cX11_hands 87 = .ok (.goto 113, 3) := by decide +kernel
theorem dX11_hands_90 : decode cX11_hands 90 = .ok (.aload_n 0, 1) := by decide +kernel
theorem dX11_hands_91 : decode cX11_hands 91 = .ok (.getfield 72, 3) := by decide +kernel
theorem dX11_hands_94 : decode cX11_hands 94 = .ok (.aload_n 0, 1) := by decide +kernel
theorem dX11_hands_95 : decode cX11_hands 95 = .ok (.getfield 68, 3) := by decide +kernel
theorem dX11_hands_98 : decode cX11_hands 98 = .ok (.invokevirtual 185, 3) := by decide +kernel
theorem dX11_hands_101 : decode cX11_hands 101 = .ok (.aload_n 0, 1) := by decide +kernel
theorem dX11_hands_102 : decode cX11_hands 102 = .ok (.getfield 72, 3) := by decide +kernel
theorem dX11_hands_105 : decode cX11_hands 105 = .ok (.getfield 171, 3) := by decide +kernel
theorem dX11_hands_108 : decode cX11_hands 108 = .ok (.iload_n 1, 1) := by decide +kernel
theorem dX11_hands_109 : decode cX11_hands 109 = .ok (.iload 10, 2) := by decide +kernel
theorem dX11_hands_111 : decode cX11_hands 111 = .ok (.iastore, 1) := by decide +kernel
theorem dX11_hands_112 : decode cX11_hands 112 = .ok (.aload_n 0, 1) := by decide +kernel
theorem dX11_hands_113 : decode cX11_hands 113 = .ok (.getfield 61, 3) := by decide +kernel
theorem dX11_hands_116 : decode cX11_hands 116 = .ok (.aload_n 0, 1) := by decide +kernel
theorem dX11_hands_117 : decode cX11_hands 117 = .ok (.getfield 51, 3) := by decide +kernel
theorem dX11_hands_120 : decode cX11_hands 120 = .ok (.aload_n 0, 1) := by decide +kernel
theorem dX11_hands_121 : decode cX11_hands 121 = .ok (.getfield 72, 3) := by decide +kernel
theorem dX11_hands_124 : decode cX11_hands 124 = .ok (.iload 4, 2) := by decide +kernel
theorem dX11_hands_126 : decode cX11_hands 126 = .ok (.invokevirtual 189, 3) := by decide +kernel
theorem dX11_hands_129 : decode cX11_hands 129 = .ok (.aload_n 0, 1) := by decide +kernel
theorem dX11_hands_130 : decode cX11_hands 130 = .ok (.getfield 72, 3) := by decide +kernel
theorem dX11_hands_133 : decode cX11_hands 133 = .ok (.getfield 159, 3) := by decide +kernel
theorem dX11_hands_136 : decode cX11_hands 136 = .ok (.iload_n 2, 1) := by decide +kernel
theorem dX11_hands_137 : decode cX11_hands 137 = .ok (.iconst 4, 1) := by decide +kernel
theorem dX11_hands_138 : decode cX11_hands 138 = .ok (.imul, 1) := by decide +kernel
theorem dX11_hands_139 : decode cX11_hands 139 = .ok (.iload_n 3, 1) := by decide +kernel
theorem dX11_hands_140 : decode cX11_hands 140 = .ok (.iadd, 1) := by decide +kernel
theorem dX11_hands_141 : decode cX11_hands 141 = .ok (.iaload, 1) := by decide +kernel
theorem dX11_hands_142 : decode cX11_hands 142 = .ok (.istore 11, 2) := by decide +kernel
theorem dX11_hands_144 : decode cX11_hands 144 = .ok (.iload 8, 2) := by decide +kernel
theorem dX11_hands_146 : decode cX11_hands 146 = .ok (.iload 5, 2) := by decide +kernel
theorem dX11_hands_148 : decode cX11_hands 148 = .ok (.isub, 1) := by decide +kernel
theorem dX11_hands_149 : decode cX11_hands 149 = .ok (.invokestatic 212, 3) := by decide +kernel
theorem dX11_hands_152 : decode cX11_hands 152 = .ok (.iload 11, 2) := by decide +kernel
theorem dX11_hands_154 : decode cX11_hands 154 = .ok (.iload 5, 2) := by decide +kernel
theorem dX11_hands_156 : decode cX11_hands 156 = .ok (.isub, 1) := by decide +kernel
theorem dX11_hands_157 : decode cX11_hands 157 = .ok (.invokestatic 212, 3) := by decide +kernel
theorem dX11_hands_160 : decode cX11_hands 160 = .ok (.isub, 1) := by decide +kernel
theorem dX11_hands_161 : decode cX11_hands 161 = .ok (.istore 12, 2) := by decide +kernel
theorem dX11_hands_163 : decode cX11_hands 163 = .ok (.iload 7, 2) := by decide +kernel
theorem dX11_hands_165 : decode cX11_hands 165 = .ok (.iconst (-1), 1) := by decide +kernel
theorem dX11_hands_166 : decode cX11_hands 166 = .ok (.if_icmp .eq 26, 3) := by decide +kernel
theorem dX11_hands_169 : decode cX11_hands 169 = .ok (.iload 12, 2) := by decide +kernel
theorem dX11_hands_171 : decode cX11_hands 171 = .ok (.ifCond .gt 21, 3) := by decide +kernel
theorem dX11_hands_174 : decode cX11_hands 174 = .ok (.iload 12, 2) := by decide +kernel
theorem dX11_hands_176 : decode cX11_hands 176 = .ok (.ifCond .ne 24, 3) := by decide +kernel
theorem dX11_hands_179 : decode cX11_hands 179 = .ok (.iload 10, 2) := by decide +kernel
theorem dX11_hands_181 : decode cX11_hands 181 = .ok (.invokestatic 207, 3) := by decide +kernel
theorem dX11_hands_184 : decode cX11_hands 184 = .ok (.iload 7, 2) := by decide +kernel
theorem dX11_hands_186 : decode cX11_hands 186 = .ok (.invokestatic 207, 3) := by decide +kernel
theorem dX11_hands_189 : decode cX11_hands 189 = .ok (.if_icmp .ge 11, 3) := by decide +kernel
theorem dX11_hands_192 : decode cX11_hands 192 = .ok (.iload 10, 2) := by decide +kernel
theorem dX11_hands_194 : decode cX11_hands 194 = .ok (.istore 7, 2) := by decide +kernel
theorem dX11_hands_196 : decode cX11_hands 196 = .ok (.iload 11, 2) := by decide +kernel
theorem dX11_hands_198 : decode cX11_hands 198 = .ok (.istore 8, 2) := by decide +kernel
theorem dX11_hands_200 : decode cX11_hands 200 = .ok (.iinc 10 1, 3) := by decide +kernel
theorem dX11_hands_203 : decode cX11_hands 203 = .ok (.goto (-132), 3) := by decide +kernel
theorem dX11_hands_206 : decode cX11_hands 206 = .ok (.iload 6, 2) := by decide +kernel
theorem dX11_hands_208 : decode cX11_hands 208 = .ok (.ifCond .ne 8, 3) := by decide +kernel
theorem dX11_hands_211 : decode cX11_hands 211 = .ok (.iload 7, 2) := by decide +kernel
theorem dX11_hands_213 : decode cX11_hands 213 = .ok (.goto 5, 3) := by decide +kernel
theorem dX11_hands_216 : decode cX11_hands 216 = .ok (.iload 8, 2) := by decide +kernel
theorem dX11_hands_218 : decode cX11_hands 218 = .ok (.ireturn, 1) := by decide +kernel
theorem dX11_blend_0 : decode cX11_blend 0 = .ok (.aload_n 0, 1) := by decide +kernel
theorem dX11_blend_1 : decode cX11_blend 1 = .ok (.iconst 2, 1) := by decide +kernel
theorem dX11_blend_2 : decode cX11_blend 2 = .ok (.iload_n 1, 1) := by decide +kernel
theorem dX11_blend_3 : decode cX11_blend 3 = .ok (.iload_n 3, 1) := by decide +kernel
theorem dX11_blend_4 : decode cX11_blend 4 = .ok (.invokevirtual 155, 3) := by decide +kernel
theorem dX11_blend_7 : decode cX11_blend 7 = .ok (.ifCond .eq 37, 3) := by decide +kernel
theorem dX11_blend_10 : decode cX11_blend 10 = .ok (.aload_n 0, 1) := by decide +kernel
theorem dX11_blend_11 : decode cX11_blend 11 = .ok (.iconst 2, 1) := by decide +kernel
theorem dX11_blend_12 : decode cX11_blend 12 = .ok (.iload_n 2, 1) := by decide +kernel
theorem dX11_blend_13 : decode cX11_blend 13 = .ok (.iload_n 3, 1) := by decide +kernel
theorem dX11_blend_14 : decode cX11_blend 14 = .ok (.invokevirtual 155, 3) := by decide +kernel
theorem dX11_blend_17 : decode cX11_blend 17 = .ok (.ifCond .eq 27, 3) := by decide +kernel
theorem dX11_blend_20 : decode cX11_blend 20 = .ok (.iload_n 1, 1) := by decide +kernel
theorem dX11_blend_21 : decode cX11_blend 21 = .ok (.iload_n 2, 1) := by decide +kernel
theorem dX11_blend_22 : decode cX11_blend 22 = .ok (.if_icmp .eq 22, 3) := by decide +kernel
theorem dX11_blend_25 : decode cX11_blend 25 = .ok (.iload 4, 2) := by decide +kernel
theorem dX11_blend_27 : decode cX11_blend 27 = .ok (.invokestatic 204, 3) := by decide +kernel
theorem dX11_blend_30 : decode cX11_blend 30 = .ok (.ifCond .eq 14, 3) := by decide +kernel
theorem dX11_blend_33 : decode cX11_blend 33 = .ok (.iload 5, 2) := by decide +kernel
theorem dX11_blend_35 : decode cX11_blend 35 = .ok (.ifCond .lt 9, 3) := by decide +kernel
theorem dX11_blend_38 : decode cX11_blend 38 = .ok (.iload 5, 2) := by decide +kernel
theorem dX11_blend_40 : decode cX11_blend 40 = .ok (.iconst 1, 1) := by decide +kernel
theorem dX11_blend_41 : decode cX11_blend 41 = .ok (.if_icmp .le 5, 3) := by decide +kernel
theorem dX11_blend_44 : decode cX11_blend 44 = .ok (.iconst (-1), 1) := by decide +kernel
theorem dX11_blend_45 : decode cX11_blend 45 = .ok (.ireturn, 1) := by decide +kernel
theorem dX11_blend_46 : decode cX11_blend 46 = .ok (.aload_n 0, 1) := by decide +kernel
theorem dX11_blend_47 : decode cX11_blend 47 = .ok (.getfield 68, 3) := by decide +kernel
theorem dX11_blend_50 : decode cX11_blend 50 = .ok (.getfield 165, 3) := by decide +kernel
theorem dX11_blend_53 : decode cX11_blend 53 = .ok (.iload_n 1, 1) := by decide +kernel
theorem dX11_blend_54 : decode cX11_blend 54 = .ok (.iconst 4, 1) := by decide +kernel
theorem dX11_blend_55 : decode cX11_blend 55 = .ok (.imul, 1) := by decide +kernel
theorem dX11_blend_56 : decode cX11_blend 56 = .ok (.iload_n 3, 1) := by decide +kernel
theorem dX11_blend_57 : decode cX11_blend 57 = .ok (.iadd, 1) := by decide +kernel
theorem dX11_blend_58 : decode cX11_blend 58 = .ok (.iaload, 1) := by decide +kernel
theorem dX11_blend_59 : decode cX11_blend 59 = .ok (.iload 4, 2) := by decide +kernel
theorem dX11_blend_61 : decode cX11_blend 61 = .ok (.isub, 1) := by decide +kernel
theorem dX11_blend_62 : decode cX11_blend 62 = .ok (.istore 6, 2) := by decide +kernel
theorem dX11_blend_64 : decode cX11_blend 64 = .ok (.aload_n 0, 1) := by decide +kernel
theorem dX11_blend_65 : decode cX11_blend 65 = .ok (.getfield 68, 3) := by decide +kernel
theorem dX11_blend_68 : decode cX11_blend 68 = .ok (.getfield 165, 3) := by decide +kernel
theorem dX11_blend_71 : decode cX11_blend 71 = .ok (.iload_n 2, 1) := by decide +kernel
theorem dX11_blend_72 : decode cX11_blend 72 = .ok (.iconst 4, 1) := by decide +kernel
theorem dX11_blend_73 : decode cX11_blend 73 = .ok (.imul, 1) := by decide +kernel
theorem dX11_blend_74 : decode cX11_blend 74 = .ok (.iload_n 3, 1) := by decide +kernel
theorem dX11_blend_75 : decode cX11_blend 75 = .ok (.iadd, 1) := by decide +kernel
theorem dX11_blend_76 : decode cX11_blend 76 = .ok (.iaload, 1) := by decide +kernel
theorem dX11_blend_77 : decode cX11_blend 77 = .ok (.iload 4, 2) := by decide +kernel
theorem dX11_blend_79 : decode cX11_blend 79 = .ok (.isub, 1) := by decide +kernel
theorem dX11_blend_80 : decode cX11_blend 80 = .ok (.istore 7, 2) := by decide +kernel
theorem dX11_blend_82 : decode cX11_blend 82 = .ok (.bipush 11, 2) := by decide +kernel
theorem dX11_blend_84 : decode cX11_blend 84 = .ok (.istore 8, 2) := by decide +kernel
theorem dX11_blend_86 : decode cX11_blend 86 = .ok (.iload 6, 2) := by decide +kernel
theorem dX11_blend_88 : decode cX11_blend 88 = .ok (.iload 7, 2) := by decide +kernel
theorem dX11_blend_90 : decode cX11_blend 90 = .ok (.iadd, 1) := by decide +kernel
theorem dX11_blend_91 : decode cX11_blend 91 = .ok (.invokestatic 212, 3) := by decide +kernel
theorem dX11_blend_94 : decode cX11_blend 94 = .ok (.istore 9, 2) := by decide +kernel
theorem dX11_blend_96 : decode cX11_blend 96 = .ok (.iconst 2, 1) := by decide +kernel
theorem dX11_blend_97 : decode cX11_blend 97 = .ok (.istore 10, 2) := by decide +kernel
theorem dX11_blend_99 : decode cX11_blend 99 = .ok (.iconst 1, 1) := by decide +kernel
theorem dX11_blend_100 : decode cX11_blend 100 = .ok (.istore 11, 2) := by decide +kernel
theorem dX11_blend_102 : decode cX11_blend 102 = .ok (.iload 11, 2) := by decide +kernel
theorem dX11_blend_104 : decode cX11_blend 104 = .ok (.bipush 9, 2) := by decide +kernel
theorem dX11_blend_106 : decode cX11_blend 106 = .ok (.if_icmp .gt 78, 3) := by decide +kernel
theorem dX11_blend_109 : decode cX11_blend 109 = .ok (.iconst 1, 1) := by decide +kernel
theorem dX11_blend_110 : decode cX11_blend 110 = .ok (.istore 12, 2) := by decide +kernel
theorem dX11_blend_112 : decode cX11_blend 112 = .ok (.iload 12, 2) := by decide +kernel
theorem dX11_blend_114 : decode cX11_blend 114 = .ok (.bipush 9, 2) := by decide +kernel
theorem dX11_blend_116 : decode cX11_blend 116 = .ok (.if_icmp .gt 62, 3) := by decide +kernel
theorem dX11_blend_119 : decode cX11_blend 119 = .ok (.iload 11, 2) := by decide +kernel
theorem dX11_blend_121 : decode cX11_blend 121 = .ok (.iload 6, 2) := by decide +kernel
theorem dX11_blend_123 : decode cX11_blend 123 = .ok (.imul, 1) := by decide +kernel
theorem dX11_blend_124 : decode cX11_blend 124 = .ok (.iload 12, 2) := by decide +kernel
theorem dX11_blend_126 : decode cX11_blend 126 = .ok (.iload 7, 2) := by decide +kernel
theorem dX11_blend_128 : decode cX11_blend 128 = .ok (.imul, 1) := by decide +kernel
theorem dX11_blend_129 : decode cX11_blend 129 = .ok (.iadd, 1) := by decide +kernel
theorem dX11_blend_130 : decode cX11_blend 130 = .ok (.invokestatic 212, 3) := by decide +kernel
theorem dX11_blend_133 : decode cX11_blend 133 = .ok (.istore 13, 2) := by decide +kernel
theorem dX11_blend_135 : decode cX11_blend 135 = .ok (.iload 13, 2) := by decide +kernel
theorem dX11_blend_137 : decode cX11_blend 137 = .ok (.iload 10, 2) := by decide +kernel
theorem dX11_blend_139 : decode cX11_blend 139 = .ok (.imul, 1) := by decide +kernel
theorem dX11_blend_140 : decode cX11_blend 140 = .ok (.iload 9, 2) := by decide +kernel
theorem dX11_blend_142 : decode cX11_blend 142 = .ok (.iload 11, 2) := by decide +kernel
theorem dX11_blend_144 : decode cX11_blend 144 = .ok (.iload 12, 2) := by decide +kernel
theorem dX11_blend_146 : decode cX11_blend 146 = .ok (.iadd, 1) := by decide +kernel
theorem dX11_blend_147 : decode cX11_blend 147 = .ok (.imul, 1) := by decide +kernel
theorem dX11_blend_148 : decode cX11_blend 148 = .ok (.if_icmp .ge 24, 3) := by decide +kernel
theorem dX11_blend_151 : decode cX11_blend 151 = .ok (.bipush 10, 2) := by decide +kernel
theorem dX11_blend_153 : decode cX11_blend 153 = .ok (.iload 11, 2) := by decide +kernel
theorem dX11_blend_155 : decode cX11_blend 155 = .ok (.imul, 1) := by decide +kernel
theorem dX11_blend_156 : decode cX11_blend 156 = .ok (.iload 12, 2) := by decide +kernel
theorem dX11_blend_158 : decode cX11_blend 158 = .ok (.iadd, 1) := by decide +kernel
theorem dX11_blend_159 : decode cX11_blend 159 = .ok (.istore 8, 2) := by decide +kernel
theorem dX11_blend_161 : decode cX11_blend 161 = .ok (.iload 13, 2) := by decide +kernel
theorem dX11_blend_163 : decode cX11_blend 163 = .ok (.istore 9, 2) := by decide +kernel
theorem dX11_blend_165 : decode cX11_blend 165 = .ok (.iload 11, 2) := by decide +kernel
theorem dX11_blend_167 : decode cX11_blend 167 = .ok (.iload 12, 2) := by decide +kernel
theorem dX11_blend_169 : decode cX11_blend 169 = .ok (.iadd, 1) := by decide +kernel
theorem dX11_blend_170 : decode cX11_blend 170 = .ok (.istore 10, 2) := by decide +kernel
theorem dX11_blend_172 : decode cX11_blend 172 = .ok (.iinc 12 1, 3) := by decide +kernel
theorem dX11_blend_175 : decode cX11_blend 175 = .ok (.goto (-63), 3) := by decide +kernel
theorem dX11_blend_178 : decode cX11_blend 178 = .ok (.iinc 11 1, 3) := by decide +kernel
theorem dX11_blend_181 : decode cX11_blend 181 = .ok (.goto (-79), 3) := by decide +kernel
theorem dX11_blend_184 : decode cX11_blend 184 = .ok (.iload 5, 2) := by decide +kernel
theorem dX11_blend_186 : decode cX11_blend 186 = .ok (.ifCond .ne 8, 3) := by decide +kernel
theorem dX11_blend_189 : decode cX11_blend 189 = .ok (.iload 8, 2) := by decide +kernel
theorem dX11_blend_191 : decode cX11_blend 191 = .ok (.goto 13, 3) := by decide +kernel
theorem dX11_blend_194 : decode cX11_blend 194 = .ok (.iload 9, 2) := by decide +kernel
theorem dX11_blend_196 : decode cX11_blend 196 = .ok (.ifCond .ne 7, 3) := by decide +kernel
theorem dX11_blend_199 : decode cX11_blend 199 = .ok (.iconst 1, 1) := by decide +kernel
theorem dX11_blend_200 : decode cX11_blend 200 = .ok (.goto 4, 3) := by decide +kernel
theorem dX11_blend_203 : decode cX11_blend 203 = .ok (.iconst 0, 1) := by decide +kernel
theorem dX11_blend_204 : decode cX11_blend 204 = .ok (.ireturn, 1) := by decide +kernel
theorem dX11_left_0 : decode cX11_left 0 = .ok (.aload_n 0, 1) := by decide +kernel
theorem dX11_left_1 : decode cX11_left 1 = .ok (.iconst 2, 1) := by decide +kernel
theorem dX11_left_2 : decode cX11_left 2 = .ok (.iload_n 1, 1) := by decide +kernel
theorem dX11_left_3 : decode cX11_left 3 = .ok (.invokevirtual 148, 3) := by decide +kernel
theorem dX11_left_6 : decode cX11_left 6 = .ok (.ifCond .eq 22, 3) := by decide +kernel
theorem dX11_left_9 : decode cX11_left 9 = .ok (.aload_n 0, 1) := by decide +kernel
theorem dX11_left_10 : decode cX11_left 10 = .ok (.iconst 1, 1) := by decide +kernel
theorem dX11_left_11 : decode cX11_left 11 = .ok (.iload_n 2, 1) := by decide +kernel
theorem dX11_left_12 : decode cX11_left 12 = .ok (.invokevirtual 148, 3) := by decide +kernel
theorem dX11_left_15 : decode cX11_left 15 = .ok (.ifCond .eq 13, 3) := by decide +kernel
theorem dX11_left_18 : decode cX11_left 18 = .ok (.iload_n 3, 1) := by decide +kernel
theorem dX11_left_19 : decode cX11_left 19 = .ok (.ifCond .lt 9, 3) := by decide +kernel
theorem dX11_left_22 : decode cX11_left 22 = .ok (.iload_n 3, 1) := by decide +kernel
theorem dX11_left_23 : decode cX11_left 23 = .ok (.bipush 6, 2) := by decide +kernel
theorem dX11_left_25 : decode cX11_left 25 = .ok (.if_icmp .le 5, 3) := by decide +kernel
theorem dX11_left_28 : decode cX11_left 28 = .ok (.iconst (-1), 1) := by decide +kernel
theorem dX11_left_29 : decode cX11_left 29 = .ok (.ireturn, 1) := by decide +kernel
theorem dX11_left_30 : decode cX11_left 30 = .ok (.aload_n 0, 1) := by decide +kernel
theorem dX11_left_31 : decode cX11_left 31 = .ok (.getfield 68, 3) := by decide +kernel
theorem dX11_left_34 : decode cX11_left 34 = .ok (.getfield 171, 3) := by decide +kernel
theorem dX11_left_37 : decode cX11_left 37 = .ok (.iload_n 1, 1) := by decide +kernel
theorem dX11_left_38 : decode cX11_left 38 = .ok (.iaload, 1) := by decide +kernel
theorem dX11_left_39 : decode cX11_left 39 = .ok (.istore 4, 2) := by decide +kernel
theorem dX11_left_41 : decode cX11_left 41 = .ok (.iload 4, 2) := by decide +kernel
theorem dX11_left_43 : decode cX11_left 43 = .ok (.invokestatic 207, 3) := by decide +kernel
theorem dX11_left_46 : decode cX11_left 46 = .ok (.istore 5, 2) := by decide +kernel
theorem dX11_left_48 : decode cX11_left 48 = .ok (.iload 4, 2) := by decide +kernel
theorem dX11_left_50 : decode cX11_left 50 = .ok (.iload_n 2, 1) := by decide +kernel
theorem dX11_left_51 : decode cX11_left 51 = .ok (.ishr, 1) := by decide +kernel
theorem dX11_left_52 : decode cX11_left 52 = .ok (.iconst 1, 1) := by decide +kernel
theorem dX11_left_53 : decode cX11_left 53 = .ok (.iand, 1) := by decide +kernel
theorem dX11_left_54 : decode cX11_left 54 = .ok (.ifCond .eq 8, 3) := by decide +kernel
theorem dX11_left_57 : decode cX11_left 57 = .ok (.iload 5, 2) := by decide +kernel
theorem dX11_left_59 : decode cX11_left 59 = .ok (.ifCond .ne 5, 3) := by decide +kernel
theorem dX11_left_62 : decode cX11_left 62 = .ok (.iconst 0, 1) := by decide +kernel
theorem dX11_left_63 : decode cX11_left 63 = .ok (.ireturn, 1) := by decide +kernel
theorem dX11_left_64 : decode cX11_left 64 = .ok (.lconst 1, 1) := by decide +kernel
theorem dX11_left_65 : decode cX11_left 65 = .ok (.lstore 6, 2) := by decide +kernel
theorem dX11_left_67 : decode cX11_left 67 = .ok (.lconst 1, 1) := by decide +kernel
theorem dX11_left_68 : decode cX11_left 68 = .ok (.lstore 8, 2) := by decide +kernel
theorem dX11_left_70 : decode cX11_left 70 = .ok (.iconst 0, 1) := by decide +kernel
theorem dX11_left_71 : decode cX11_left 71 = .ok (.istore 10, 2) := by decide +kernel
theorem dX11_left_73 : decode cX11_left 73 = .ok (.iload 10, 2) := by decide +kernel
theorem dX11_left_75 : decode cX11_left 75 = .ok (.iload_n 3, 1) := by decide +kernel
theorem dX11_left_76 : decode cX11_left 76 = .ok (.if_icmp .ge 32, 3) := by decide +kernel
theorem dX11_left_79 : decode cX11_left 79 = .ok (.lload 6, 2) := by decide +kernel
theorem dX11_left_81 : decode cX11_left 81 = .ok (.ldc2_w 217, 3) := by decide +kernel
theorem dX11_left_84 : decode cX11_left 84 = .ok (.lmul, 1) := by decide +kernel
theorem dX11_left_85 : decode cX11_left 85 = .ok (.lstore 6, 2) := by decide +kernel
theorem dX11_left_87 : decode cX11_left 87 = .ok (.lload 8, 2) := by decide +kernel
theorem dX11_left_89 : decode cX11_left 89 = .ok (.aload_n 0, 1) := by decide +kernel
theorem dX11_left_90 : decode cX11_left 90 = .ok (.getfield 51, 3) := by decide +kernel
theorem dX11_left_93 : decode cX11_left 93 = .ok (.getfield 168, 3) := by decide +kernel
theorem dX11_left_96 : decode cX11_left 96 = .ok (.iload_n 1, 1) := by decide +kernel
theorem dX11_left_97 : decode cX11_left 97 = .ok (.iaload, 1) := by decide +kernel
theorem dX11_left_98 : decode cX11_left 98 = .ok (.i2l, 1) := by decide +kernel
theorem dX11_left_99 : decode cX11_left 99 = .ok (.lmul, 1) := by decide +kernel
theorem dX11_left_100 : decode cX11_left 100 = .ok (.lstore 8, 2) := by decide +kernel
theorem dX11_left_102 : decode cX11_left 102 = .ok (.iinc 10 1, 3) := by decide +kernel
theorem dX11_left_105 : decode cX11_left 105 = .ok (.goto (-32), 3) := by decide +kernel
theorem dX11_left_108 : decode cX11_left 108 = .ok (.ldc2_w 219, 3) := by decide +kernel
theorem dX11_left_111 : decode cX11_left 111 = .ok (.lload 6, 2) := by decide +kernel
theorem dX11_left_113 : decode cX11_left 113 = .ok (.lload 8, 2) := by decide +kernel
theorem dX11_left_115 : decode cX11_left 115 = .ok (.lsub, 1) := by decide +kernel
theorem dX11_left_116 : decode cX11_left 116 = .ok (.lmul, 1) := by decide +kernel
theorem dX11_left_117 : decode cX11_left 117 = .ok (.lload 6, 2) := by decide +kernel
theorem dX11_left_119 : decode cX11_left 119 = .ok (.iload 5, 2) := by decide +kernel
theorem dX11_left_121 : decode cX11_left 121 = .ok (.i2l, 1) := by decide +kernel
theorem dX11_left_122 : decode cX11_left 122 = .ok (.lmul, 1) := by decide +kernel
theorem dX11_left_123 : decode cX11_left 123 = .ok (.ldiv, 1) := by decide +kernel
theorem dX11_left_124 : decode cX11_left 124 = .ok (.l2i, 1) := by decide +kernel
theorem dX11_left_125 : decode cX11_left 125 = .ok (.ireturn, 1) := by decide +kernel
theorem dX11_votes_0 : decode cX11_votes 0 = .ok (.aload_n 0, 1) := by decide +kernel
theorem dX11_votes_1 : decode cX11_votes 1 = .ok (.iconst 2, 1) := by decide +kernel
theorem dX11_votes_2 : decode cX11_votes 2 = .ok (.iload_n 1, 1) := by decide +kernel
theorem dX11_votes_3 : decode cX11_votes 3 = .ok (.invokevirtual 148, 3) := by decide +kernel
theorem dX11_votes_6 : decode cX11_votes 6 = .ok (.ifCond .eq 26, 3) := by decide +kernel
theorem dX11_votes_9 : decode cX11_votes 9 = .ok (.aload_n 0, 1) := by decide +kernel
theorem dX11_votes_10 : decode cX11_votes 10 = .ok (.iconst 2, 1) := by decide +kernel
theorem dX11_votes_11 : decode cX11_votes 11 = .ok (.iload_n 2, 1) := by decide +kernel
theorem dX11_votes_12 : decode cX11_votes 12 = .ok (.invokevirtual 148, 3) := by decide +kernel
theorem dX11_votes_15 : decode cX11_votes 15 = .ok (.ifCond .eq 17, 3) := by decide +kernel
theorem dX11_votes_18 : decode cX11_votes 18 = .ok (.iload_n 1, 1) := by decide +kernel
theorem dX11_votes_19 : decode cX11_votes 19 = .ok (.iload_n 2, 1) := by decide +kernel
theorem dX11_votes_20 : decode cX11_votes 20 = .ok (.if_icmp .eq 12, 3) := by decide +kernel
theorem dX11_votes_23 : decode cX11_votes 23 = .ok (.iload_n 3, 1) := by decide +kernel
theorem dX11_votes_24 : decode cX11_votes 24 = .ok (.ifCond .lt 8, 3) := by decide +kernel
theorem dX11_votes_27 : decode cX11_votes 27 = .ok (.iload_n 3, 1) := by decide +kernel
theorem dX11_votes_28 : decode cX11_votes 28 = .ok (.iconst 2, 1) := by decide +kernel
theorem dX11_votes_29 : decode cX11_votes 29 = .ok (.if_icmp .le 5, 3) := by decide +kernel
theorem dX11_votes_32 : decode cX11_votes 32 = .ok (.iconst (-1), 1) := by decide +kernel
theorem dX11_votes_33 : decode cX11_votes 33 = .ok (.ireturn, 1) := by decide +kernel
theorem dX11_votes_34 : decode cX11_votes 34 = .ok (.iconst 0, 1) := by decide +kernel
theorem dX11_votes_35 : decode cX11_votes 35 = .ok (.istore 4, 2) := by decide +kernel
theorem dX11_votes_37 : decode cX11_votes 37 = .ok (.iconst 0, 1) := by decide +kernel
theorem dX11_votes_38 : decode cX11_votes 38 = .ok (.istore 5, 2) := by decide +kernel
theorem dX11_votes_40 : decode cX11_votes 40 = .ok (.iconst 0, 1) := by decide +kernel
theorem dX11_votes_41 : decode cX11_votes 41 = .ok (.istore 6, 2) := by decide +kernel
theorem dX11_votes_43 : decode cX11_votes 43 = .ok (.iconst 0, 1) := by decide +kernel
theorem dX11_votes_44 : decode cX11_votes 44 = .ok (.istore 7, 2) := by decide +kernel
theorem dX11_votes_46 : decode cX11_votes 46 = .ok (.iload 7, 2) := by decide +kernel
theorem dX11_votes_48 : decode cX11_votes 48 = .ok (.aload_n 0, 1) := by decide +kernel
theorem dX11_votes_49 : decode cX11_votes 49 = .ok (.getfield 51, 3) := by decide +kernel
theorem dX11_votes_52 : decode cX11_votes 52 = .ok (.getfield 138, 3) := by decide +kernel
theorem dX11_votes_55 : decode cX11_votes 55 = .ok (.iconst 1, 1) := by decide +kernel
theorem dX11_votes_56 : decode cX11_votes 56 = .ok (.iaload, 1) := by decide +kernel
theorem dX11_votes_57 : decode cX11_votes 57 = .ok (.if_icmp .ge 57, 3) := by decide +kernel
theorem dX11_votes_60 : decode cX11_votes 60 = .ok (.aload_n 0, 1) := by decide +kernel
theorem dX11_votes_61 : decode cX11_votes 61 = .ok (.iload 7, 2) := by decide +kernel
theorem dX11_votes_63 : decode cX11_votes 63 = .ok (.iload_n 1, 1) := by decide +kernel
theorem dX11_votes_64 : decode cX11_votes 64 = .ok (.invokevirtual 221, 3) := by decide +kernel
theorem dX11_votes_67 : decode cX11_votes 67 = .ok (.aload_n 0, 1) := by decide +kernel
theorem dX11_votes_68 : decode cX11_votes 68 = .ok (.iload 7, 2) := by decide +kernel
theorem dX11_votes_70 : decode cX11_votes 70 = .ok (.iload_n 2, 1) := by decide +kernel
theorem dX11_votes_71 : decode cX11_votes 71 = .ok (.invokevirtual 221, 3) := by decide +kernel
theorem dX11_votes_74 : decode cX11_votes 74 = .ok (.isub, 1) := by decide +kernel
theorem dX11_votes_75 : decode cX11_votes 75 = .ok (.istore 8, 2) := by decide +kernel
theorem dX11_votes_77 : decode cX11_votes 77 = .ok (.iload 8, 2) := by decide +kernel
theorem dX11_votes_79 : decode cX11_votes 79 = .ok (.ifCond .ge 9, 3) := by decide +kernel
theorem dX11_votes_82 : decode cX11_votes 82 = .ok (.iinc 4 1, 3) := by decide +kernel
theorem dX11_votes_85 : decode cX11_votes 85 = .ok (.goto 23, 3) := by decide +kernel
theorem dX11_votes_88 : decode cX11_votes 88 = .ok (.iload 8, 2) := by decide +kernel
theorem dX11_votes_90 : decode cX11_votes 90 = .ok (.ifCond .le 9, 3) := by decide +kernel
theorem dX11_votes_93 : decode cX11_votes 93 = .ok (.iinc 5 1, 3) := by decide +kernel
theorem dX11_votes_96 : decode cX11_votes 96 = .ok (.goto 12, 3) := by decide +kernel
theorem dX11_votes_99 : decode cX11_votes 99 = .ok (.iload 6, 2) := by decide +kernel
theorem dX11_votes_101 : decode cX11_votes 101 = .ok (.iconst 1, 1) := by decide +kernel
theorem dX11_votes_102 : decode cX11_votes 102 = .ok (.iload 7, 2) := by decide +kernel
theorem dX11_votes_104 : decode cX11_votes 104 = .ok (.ishl, 1) := by decide +kernel
theorem dX11_votes_105 : decode cX11_votes 105 = .ok (.ior, 1) := by decide +kernel
theorem dX11_votes_106 : decode cX11_votes 106 = .ok (.istore 6, 2) := by decide +kernel
theorem dX11_votes_108 : decode cX11_votes 108 = .ok (.iinc 7 1, 3) := by decide +kernel
theorem dX11_votes_111 : decode cX11_votes 111 = .ok (.goto (-65), 3) := by decide +kernel
theorem dX11_votes_114 : decode cX11_votes 114 = .ok (.iload_n 3, 1) := by decide +kernel
theorem dX11_votes_115 : decode cX11_votes 115 = .ok (.ifCond .ne 8, 3) := by decide +kernel
theorem dX11_votes_118 : decode cX11_votes 118 = .ok (.iload 4, 2) := by decide +kernel
theorem dX11_votes_120 : decode cX11_votes 120 = .ok (.goto 15, 3) := by decide +kernel
theorem dX11_votes_123 : decode cX11_votes 123 = .ok (.iload_n 3, 1) := by decide +kernel
theorem dX11_votes_124 : decode cX11_votes 124 = .ok (.iconst 1, 1) := by decide +kernel
theorem dX11_votes_125 : decode cX11_votes 125 = .ok (.if_icmp .ne 8, 3) := by decide +kernel
theorem dX11_votes_128 : decode cX11_votes 128 = .ok (.iload 5, 2) := by decide +kernel
theorem dX11_votes_130 : decode cX11_votes 130 = .ok (.goto 5, 3) := by decide +kernel
theorem dX11_votes_133 : decode cX11_votes 133 = .ok (.iload 6, 2) := by decide +kernel
theorem dX11_votes_135 : decode cX11_votes 135 = .ok (.ireturn, 1) := by decide +kernel
theorem dX11_go_0 : decode cX11_go 0 = .ok (.iload_n 1, 1) := by decide +kernel
theorem dX11_go_1 : decode cX11_go 1 = .ok (.iconst 1, 1) := by decide +kernel
theorem dX11_go_2 : decode cX11_go 2 = .ok (.if_icmp .lt 25, 3) := by decide +kernel
theorem dX11_go_5 : decode cX11_go 5 = .ok (.iload_n 1, 1) := by decide +kernel
theorem dX11_go_6 : decode cX11_go 6 = .ok (.sipush 500, 3) := by decide +kernel
theorem dX11_go_9 : decode cX11_go 9 = .ok (.if_icmp .gt 18, 3) := by decide +kernel
theorem dX11_go_12 : decode cX11_go 12 = .ok (.aload_n 0, 1) := by decide +kernel
theorem dX11_go_13 : decode cX11_go 13 = .ok (.getfield 68, 3) := by decide +kernel
theorem dX11_go_16 : decode cX11_go 16 = .ok (.getfield 141, 3) := by decide +kernel
theorem dX11_go_19 : decode cX11_go 19 = .ok (.iload_n 1, 1) := by decide +kernel
theorem dX11_go_20 : decode cX11_go 20 = .ok (.iadd, 1) := by decide +kernel
theorem dX11_go_21 : decode cX11_go 21 = .ok (.sipush 9999, 3) := by decide +kernel
theorem dX11_go_24 : decode cX11_go 24 = .ok (.if_icmp .le 9, 3) := by decide +kernel
theorem dX11_go_27 : decode cX11_go 27 = .ok (.aload_n 0, 1) := by decide +kernel
theorem dX11_go_28 : decode cX11_go 28 = .ok (.iconst 2, 1) := by decide +kernel
theorem dX11_go_29 : decode cX11_go 29 = .ok (.invokevirtual 107, 3) := by decide +kernel
theorem dX11_go_32 : decode cX11_go 32 = .ok (.ireturn, 1) := by decide +kernel
theorem dX11_go_33 : decode cX11_go 33 = .ok (.aload_n 0, 1) := by decide +kernel
theorem dX11_go_34 : decode cX11_go 34 = .ok (.getfield 82, 3) := by decide +kernel
theorem dX11_go_37 : decode cX11_go 37 = .ok (.aload_n 0, 1) := by decide +kernel
theorem dX11_go_38 : decode cX11_go 38 = .ok (.getfield 68, 3) := by decide +kernel
theorem dX11_go_41 : decode cX11_go 41 = .ok (.invokevirtual 225, 3) := by decide +kernel
theorem dX11_go_44 : decode cX11_go 44 = .ok (.aload_n 0, 1) := by decide +kernel
theorem dX11_go_45 : decode cX11_go 45 = .ok (.getfield 61, 3) := by decide +kernel
theorem dX11_go_48 : decode cX11_go 48 = .ok (.aload_n 0, 1) := by decide +kernel
theorem dX11_go_49 : decode cX11_go 49 = .ok (.getfield 51, 3) := by decide +kernel
theorem dX11_go_52 : decode cX11_go 52 = .ok (.aload_n 0, 1) := by decide +kernel
theorem dX11_go_53 : decode cX11_go 53 = .ok (.getfield 68, 3) := by decide +kernel
theorem dX11_go_56 : decode cX11_go 56 = .ok (.iload_n 1, 1) := by decide +kernel
theorem dX11_go_57 : decode cX11_go 57 = .ok (.invokevirtual 189, 3) := by decide +kernel
theorem dX11_go_60 : decode cX11_go 60 = .ok (.aload_n 0, 1) := by decide +kernel
theorem dX11_go_61 : decode cX11_go 61 = .ok (.getfield 68, 3) := by decide +kernel
theorem dX11_go_64 : decode cX11_go 64 = .ok (.getfield 141, 3) := by decide +kernel
theorem dX11_go_67 : decode cX11_go 67 = .ok (.ireturn, 1) := by decide +kernel
theorem dX11_knead_0 : decode cX11_knead 0 = .ok (.aload_n 0, 1) := by decide +kernel
theorem dX11_knead_1 : decode cX11_knead 1 = .ok (.iconst 2, 1) := by decide +kernel
theorem dX11_knead_2 : decode cX11_knead 2 = .ok (.iload_n 1, 1) := by decide +kernel
theorem dX11_knead_3 : decode cX11_knead 3 = .ok (.invokevirtual 148, 3) := by decide +kernel
theorem dX11_knead_6 : decode cX11_knead 6 = .ok (.ifCond .eq 14, 3) := by decide +kernel
theorem dX11_knead_9 : decode cX11_knead 9 = .ok (.aload_n 0, 1) := by decide +kernel
theorem dX11_knead_10 : decode cX11_knead 10 = .ok (.getfield 51, 3) := by decide +kernel
theorem dX11_knead_13 : decode cX11_knead 13 = .ok (.iload_n 2, 1) := by decide +kernel
theorem dX11_knead_14 : decode cX11_knead 14 = .ok (.invokevirtual 228, 3) := by decide +kernel
theorem dX11_knead_17 : decode cX11_knead 17 = .ok (.ifCond .ne 9, 3) := by decide +kernel
theorem dX11_knead_20 : decode cX11_knead 20 = .ok (.aload_n 0, 1) := by decide +kernel
theorem dX11_knead_21 : decode cX11_knead 21 = .ok (.iconst 2, 1) := by decide +kernel
theorem dX11_knead_22 : decode cX11_knead 22 = .ok (.invokevirtual 107, 3) := by decide +kernel
theorem dX11_knead_25 : decode cX11_knead 25 = .ok (.ireturn, 1) := by decide +kernel
theorem dX11_knead_26 : decode cX11_knead 26 = .ok (.aload_n 0, 1) := by decide +kernel
theorem dX11_knead_27 : decode cX11_knead 27 = .ok (.getfield 82, 3) := by decide +kernel
theorem dX11_knead_30 : decode cX11_knead 30 = .ok (.aload_n 0, 1) := by decide +kernel
theorem dX11_knead_31 : decode cX11_knead 31 = .ok (.getfield 68, 3) := by decide +kernel
theorem dX11_knead_34 : decode cX11_knead 34 = .ok (.invokevirtual 225, 3) := by decide +kernel
theorem dX11_knead_37 : decode cX11_knead 37 = .ok (.aload_n 0, 1) := by decide +kernel
theorem dX11_knead_38 : decode cX11_knead 38 = .ok (.getfield 68, 3) := by decide +kernel
theorem dX11_knead_41 : decode cX11_knead 41 = .ok (.getfield 171, 3) := by decide +kernel
theorem dX11_knead_44 : decode cX11_knead 44 = .ok (.iload_n 1, 1) := by decide +kernel
theorem dX11_knead_45 : decode cX11_knead 45 = .ok (.iaload, 1) := by decide +kernel
theorem dX11_knead_46 : decode cX11_knead 46 = .ok (.istore_n 3, 1) := by decide +kernel
theorem dX11_knead_47 : decode cX11_knead 47 = .ok (.aload_n 0, 1) := by decide +kernel
theorem dX11_knead_48 : decode cX11_knead 48 = .ok (.getfield 68, 3) := by decide +kernel
theorem dX11_knead_51 : decode cX11_knead 51 = .ok (.getfield 171, 3) := by decide +kernel
theorem dX11_knead_54 : decode cX11_knead 54 = .ok (.iload_n 1, 1) := by decide +kernel
theorem dX11_knead_55 : decode cX11_knead 55 = .ok (.iload_n 2, 1) := by decide +kernel
theorem dX11_knead_56 : decode cX11_knead 56 = .ok (.iastore, 1) := by decide +kernel
theorem dX11_knead_57 : decode cX11_knead 57 = .ok (.iload_n 3, 1) := by decide +kernel
theorem dX11_knead_58 : decode cX11_knead 58 = .ok (.ireturn, 1) := by decide +kernel
theorem dX11_calm_0 : decode cX11_calm 0 = .ok (.aload_n 0, 1) := by decide +kernel
theorem dX11_calm_1 : decode cX11_calm 1 = .ok (.iconst 1, 1) := by decide +kernel
theorem dX11_calm_2 : decode cX11_calm 2 = .ok (.iload_n 1, 1) := by decide +kernel
theorem dX11_calm_3 : decode cX11_calm 3 = .ok (.iload_n 2, 1) := by decide +kernel
theorem dX11_calm_4 : decode cX11_calm 4 = .ok (.invokevirtual 155, 3) := by decide +kernel
theorem dX11_calm_7 : decode cX11_calm 7 = .ok (.ifCond .eq 10, 3) := by decide +kernel
theorem dX11_calm_10 : decode cX11_calm 10 = .ok (.iload_n 3, 1) := by decide +kernel
theorem dX11_calm_11 : decode cX11_calm 11 = .ok (.invokestatic 204, 3) := by decide +kernel
theorem dX11_calm_14 : decode cX11_calm 14 = .ok (.ifCond .ne 9, 3) := by decide +kernel
theorem dX11_calm_17 : decode cX11_calm 17 = .ok (.aload_n 0, 1) := by decide +kernel
theorem dX11_calm_18 : decode cX11_calm 18 = .ok (.iconst 2, 1) := by decide +kernel
theorem dX11_calm_19 : decode cX11_calm 19 = .ok (.invokevirtual 107, 3) := by decide +kernel
theorem dX11_calm_22 : decode cX11_calm 22 = .ok (.ireturn, 1) := by decide +kernel
theorem dX11_calm_23 : decode cX11_calm 23 = .ok (.aload_n 0, 1) := by decide +kernel
theorem dX11_calm_24 : decode cX11_calm 24 = .ok (.getfield 82, 3) := by decide +kernel
theorem dX11_calm_27 : decode cX11_calm 27 = .ok (.aload_n 0, 1) := by decide +kernel
theorem dX11_calm_28 : decode cX11_calm 28 = .ok (.getfield 68, 3) := by decide +kernel
theorem dX11_calm_31 : decode cX11_calm 31 = .ok (.invokevirtual 225, 3) := by decide +kernel
theorem dX11_calm_34 : decode cX11_calm 34 = .ok (.aload_n 0, 1) := by decide +kernel
theorem dX11_calm_35 : decode cX11_calm 35 = .ok (.getfield 68, 3) := by decide +kernel
theorem dX11_calm_38 : decode cX11_calm 38 = .ok (.getfield 162, 3) := by decide +kernel
theorem dX11_calm_41 : decode cX11_calm 41 = .ok (.iload_n 1, 1) := by decide +kernel
theorem dX11_calm_42 : decode cX11_calm 42 = .ok (.iconst 4, 1) := by decide +kernel
theorem dX11_calm_43 : decode cX11_calm 43 = .ok (.imul, 1) := by decide +kernel
theorem dX11_calm_44 : decode cX11_calm 44 = .ok (.iload_n 2, 1) := by decide +kernel
theorem dX11_calm_45 : decode cX11_calm 45 = .ok (.iadd, 1) := by decide +kernel
theorem dX11_calm_46 : decode cX11_calm 46 = .ok (.iaload, 1) := by decide +kernel
theorem dX11_calm_47 : decode cX11_calm 47 = .ok (.istore 4, 2) := by decide +kernel
theorem dX11_calm_49 : decode cX11_calm 49 = .ok (.aload_n 0, 1) := by decide +kernel
theorem dX11_calm_50 : decode cX11_calm 50 = .ok (.getfield 68, 3) := by decide +kernel
theorem dX11_calm_53 : decode cX11_calm 53 = .ok (.getfield 162, 3) := by decide +kernel
theorem dX11_calm_56 : decode cX11_calm 56 = .ok (.iload_n 1, 1) := by decide +kernel
theorem dX11_calm_57 : decode cX11_calm 57 = .ok (.iconst 4, 1) := by decide +kernel
theorem dX11_calm_58 : decode cX11_calm 58 = .ok (.imul, 1) := by decide +kernel
theorem dX11_calm_59 : decode cX11_calm 59 = .ok (.iload_n 2, 1) := by decide +kernel
theorem dX11_calm_60 : decode cX11_calm 60 = .ok (.iadd, 1) := by decide +kernel
theorem dX11_calm_61 : decode cX11_calm 61 = .ok (.iload_n 3, 1) := by decide +kernel
theorem dX11_calm_62 : decode cX11_calm 62 = .ok (.iastore, 1) := by decide +kernel
theorem dX11_calm_63 : decode cX11_calm 63 = .ok (.iload 4, 2) := by decide +kernel
theorem dX11_calm_65 : decode cX11_calm 65 = .ok (.ireturn, 1) := by decide +kernel
theorem dX11_days_0 : decode cX11_days 0 = .ok (.iload_n 1, 1) := by decide +kernel
theorem dX11_days_1 : decode cX11_days 1 = .ok (.iconst 1, 1) := by decide +kernel
theorem dX11_days_2 : decode cX11_days 2 = .ok (.if_icmp .lt 27, 3) := by decide +kernel
theorem dX11_days_5 : decode cX11_days 5 = .ok (.iload_n 1, 1) := by decide +kernel
theorem dX11_days_6 : decode cX11_days 6 = .ok (.bipush 20, 2) := by decide +kernel
theorem dX11_days_8 : decode cX11_days 8 = .ok (.if_icmp .gt 21, 3) := by decide +kernel
theorem dX11_days_11 : decode cX11_days 11 = .ok (.aload_n 0, 1) := by decide +kernel
theorem dX11_days_12 : decode cX11_days 12 = .ok (.getfield 68, 3) := by decide +kernel
theorem dX11_days_15 : decode cX11_days 15 = .ok (.getfield 141, 3) := by decide +kernel
theorem dX11_days_18 : decode cX11_days 18 = .ok (.iload_n 1, 1) := by decide +kernel
theorem dX11_days_19 : decode cX11_days 19 = .ok (.bipush 24, 2) := by decide +kernel
theorem dX11_days_21 : decode cX11_days 21 = .ok (.imul, 1) := by decide +kernel
theorem dX11_days_22 : decode cX11_days 22 = .ok (.iadd, 1) := by decide +kernel
theorem dX11_days_23 : decode cX11_days 23 = .ok (.sipush 9999, 3) := by decide +kernel
theorem dX11_days_26 : decode cX11_days 26 = .ok (.if_icmp .le 9, 3) := by decide +kernel
theorem dX11_days_29 : decode cX11_days 29 = .ok (.aload_n 0, 1) := by decide +kernel
theorem dX11_days_30 : decode cX11_days 30 = .ok (.iconst 2, 1) := by decide +kernel
theorem dX11_days_31 : decode cX11_days 31 = .ok (.invokevirtual 107, 3) := by decide +kernel
theorem dX11_days_34 : decode cX11_days 34 = .ok (.ireturn, 1) := by decide +kernel
theorem dX11_days_35 : decode cX11_days 35 = .ok (.aload_n 0, 1) := by decide +kernel
theorem dX11_days_36 : decode cX11_days 36 = .ok (.getfield 82, 3) := by decide +kernel
theorem dX11_days_39 : decode cX11_days 39 = .ok (.aload_n 0, 1) := by decide +kernel
theorem dX11_days_40 : decode cX11_days 40 = .ok (.getfield 68, 3) := by decide +kernel
theorem dX11_days_43 : decode cX11_days 43 = .ok (.invokevirtual 225, 3) := by decide +kernel
theorem dX11_days_46 : decode cX11_days 46 = .ok (.iconst 0, 1) := by decide +kernel
theorem dX11_days_47 : decode cX11_days 47 = .ok (.istore_n 2, 1) := by decide +kernel
theorem dX11_days_48 : decode cX11_days 48 = .ok (.iload_n 2, 1) := by decide +kernel
theorem dX11_days_49 : decode cX11_days 49 = .ok (.iload_n 1, 1) := by decide +kernel
theorem dX11_days_50 : decode cX11_days 50 = .ok (.if_icmp .ge 30, 3) := by decide +kernel
theorem dX11_days_53 : decode cX11_days 53 = .ok (.aload_n 0, 1) := by decide +kernel
theorem dX11_days_54 : decode cX11_days 54 = .ok (.invokevirtual 231, 3) := by decide +kernel
theorem dX11_days_57 : decode cX11_days 57 = .ok (.aload_n 0, 1) := by decide +kernel
theorem dX11_days_58 : decode cX11_days 58 = .ok (.getfield 61, 3) := by decide +kernel
theorem dX11_days_61 : decode cX11_days 61 = .ok (.aload_n 0, 1) := by decide +kernel
theorem dX11_days_62 : decode cX11_days 62 = .ok (.getfield 51, 3) := by decide +kernel
theorem dX11_days_65 : decode cX11_days 65 = .ok (.aload_n 0, 1) := by decide +kernel
theorem dX11_days_66 : decode cX11_days 66 = .ok (.getfield 68, 3) := by decide +kernel
theorem dX11_days_69 : decode cX11_days 69 = .ok (.bipush 24, 2) := by decide +kernel
theorem dX11_days_71 : decode cX11_days 71 = .ok (.invokevirtual 189, 3) := by decide +kernel
theorem dX11_days_74 : decode cX11_days 74 = .ok (.iinc 2 1, 3) := by decide +kernel
theorem dX11_days_77 : decode cX11_days 77 = .ok (.goto (-29), 3) := by decide +kernel
theorem dX11_days_80 : decode cX11_days 80 = .ok (.aload_n 0, 1) := by decide +kernel
theorem dX11_days_81 : decode cX11_days 81 = .ok (.getfield 68, 3) := by decide +kernel
theorem dX11_days_84 : decode cX11_days 84 = .ok (.getfield 141, 3) := by decide +kernel
theorem dX11_days_87 : decode cX11_days 87 = .ok (.ireturn, 1) := by decide +kernel
theorem dX11_undo_0 : decode cX11_undo 0 = .ok (.aload_n 0, 1) := by decide +kernel
theorem dX11_undo_1 : decode cX11_undo 1 = .ok (.getfield 82, 3) := by decide +kernel
theorem dX11_undo_4 : decode cX11_undo 4 = .ok (.aload_n 0, 1) := by decide +kernel
theorem dX11_undo_5 : decode cX11_undo 5 = .ok (.getfield 68, 3) := by decide +kernel
theorem dX11_undo_8 : decode cX11_undo 8 = .ok (.invokevirtual 234, 3) := by decide +kernel
theorem dX11_undo_11 : decode cX11_undo 11 = .ok (.ifCond .ne 11, 3) := by decide +kernel
theorem dX11_undo_14 : decode cX11_undo 14 = .ok (.aload_n 0, 1) := by decide +kernel
theorem dX11_undo_15 : decode cX11_undo 15 = .ok (.iconst 3, 1) := by decide +kernel
theorem dX11_undo_16 : decode cX11_undo 16 = .ok (.invokevirtual 107, 3) := by decide +kernel
theorem dX11_undo_19 : decode cX11_undo 19 = .ok (.pop, 1) := by decide +kernel
theorem dX11_undo_20 : decode cX11_undo 20 = .ok (.iconst 0, 1) := by decide +kernel
theorem dX11_undo_21 : decode cX11_undo 21 = .ok (.ireturn, 1) := by decide +kernel
theorem dX11_undo_22 : decode cX11_undo 22 = .ok (.iconst 1, 1) := by decide +kernel
theorem dX11_undo_23 : decode cX11_undo 23 = .ok (.ireturn, 1) := by decide +kernel
theorem dX11_seed_0 : decode cX11_seed 0 = .ok (.iload_n 1, 1) := by decide +kernel
theorem dX11_seed_1 : decode cX11_seed 1 = .ok (.ifCond .ge 11, 3) := by decide +kernel
theorem dX11_seed_4 : decode cX11_seed 4 = .ok (.aload_n 0, 1) := by decide +kernel
theorem dX11_seed_5 : decode cX11_seed 5 = .ok (.iconst 4, 1) := by decide +kernel
theorem dX11_seed_6 : decode cX11_seed 6 = .ok (.invokevirtual 107, 3) := by decide +kernel
theorem dX11_seed_9 : decode cX11_seed 9 = .ok (.pop, 1) := by decide +kernel
theorem dX11_seed_10 : decode cX11_seed 10 = .ok (.iconst 0, 1) := by decide +kernel
theorem dX11_seed_11 : decode cX11_seed 11 = .ok (.ireturn, 1) := by decide +kernel
theorem dX11_seed_12 : decode cX11_seed 12 = .ok (.aload_n 0, 1) := by decide +kernel
theorem dX11_seed_13 : decode cX11_seed 13 = .ok (.iload_n 1, 1) := by decide +kernel
theorem dX11_seed_14 : decode cX11_seed 14 = .ok (.i2l, 1) := by decide +kernel
theorem dX11_seed_15 : decode cX11_seed 15 = .ok (.putfield 100, 3) := by decide +kernel
theorem dX11_seed_18 : decode cX11_seed 18 = .ok (.iconst 1, 1) := by decide +kernel
theorem dX11_seed_19 : decode cX11_seed 19 = .ok (.ireturn, 1) := by decide +kernel
theorem dX11_see_0 : decode cX11_see 0 = .ok (.aload_n 0, 1) := by decide +kernel
theorem dX11_see_1 : decode cX11_see 1 = .ok (.getfield 89, 3) := by decide +kernel
theorem dX11_see_4 : decode cX11_see 4 = .ok (.aload_n 0, 1) := by decide +kernel
theorem dX11_see_5 : decode cX11_see 5 = .ok (.getfield 34, 3) := by decide +kernel
theorem dX11_see_8 : decode cX11_see 8 = .ok (.aload_n 0, 1) := by decide +kernel
theorem dX11_see_9 : decode cX11_see 9 = .ok (.getfield 37, 3) := by decide +kernel
theorem dX11_see_12 : decode cX11_see 12 = .ok (.aload_n 0, 1) := by decide +kernel
theorem dX11_see_13 : decode cX11_see 13 = .ok (.getfield 51, 3) := by decide +kernel
theorem dX11_see_16 : decode cX11_see 16 = .ok (.invokevirtual 237, 3) := by decide +kernel
theorem dX11_see_19 : decode cX11_see 19 = .ok (.istore_n 1, 1) := by decide +kernel
theorem dX11_see_20 : decode cX11_see 20 = .ok (.aload_n 0, 1) := by decide +kernel
theorem dX11_see_21 : decode cX11_see 21 = .ok (.iconst 0, 1) := by decide +kernel
theorem dX11_see_22 : decode cX11_see 22 = .ok (.putfield 37, 3) := by decide +kernel
theorem dX11_see_25 : decode cX11_see 25 = .ok (.iload_n 1, 1) := by decide +kernel
theorem dX11_see_26 : decode cX11_see 26 = .ok (.ifCond .eq 13, 3) := by decide +kernel
theorem dX11_see_29 : decode cX11_see 29 = .ok (.aload_n 0, 1) := by decide +kernel
theorem dX11_see_30 : decode cX11_see 30 = .ok (.getfield 89, 3) := by decide +kernel
theorem dX11_see_33 : decode cX11_see 33 = .ok (.getfield 123, 3) := by decide +kernel
theorem dX11_see_36 : decode cX11_see 36 = .ok (.goto 8, 3) := by decide +kernel
theorem dX11_see_39 : decode cX11_see 39 = .ok (.aload_n 0, 1) := by decide +kernel
theorem dX11_see_40 : decode cX11_see 40 = .ok (.iconst 1, 1) := by decide +kernel
theorem dX11_see_41 : decode cX11_see 41 = .ok (.invokevirtual 107, 3) := by decide +kernel
theorem dX11_see_44 : decode cX11_see 44 = .ok (.ireturn, 1) := by decide +kernel
theorem dX11_kneaders_0 : decode cX11_kneaders 0 = .ok (.aload_n 0, 1) := by decide +kernel
theorem dX11_kneaders_1 : decode cX11_kneaders 1 = .ok (.iconst 2, 1) := by decide +kernel
theorem dX11_kneaders_2 : decode cX11_kneaders 2 = .ok (.iload_n 1, 1) := by decide +kernel
theorem dX11_kneaders_3 : decode cX11_kneaders 3 = .ok (.invokevirtual 148, 3) := by decide +kernel
theorem dX11_kneaders_6 : decode cX11_kneaders 6 = .ok (.ifCond .eq 12, 3) := by decide +kernel
theorem dX11_kneaders_9 : decode cX11_kneaders 9 = .ok (.iload_n 2, 1) := by decide +kernel
theorem dX11_kneaders_10 : decode cX11_kneaders 10 = .ok (.ifCond .lt 8, 3) := by decide +kernel
theorem dX11_kneaders_13 : decode cX11_kneaders 13 = .ok (.iload_n 2, 1) := by decide +kernel
theorem dX11_kneaders_14 : decode cX11_kneaders 14 = .ok (.iconst 3, 1) := by decide +kernel
theorem dX11_kneaders_15 : decode cX11_kneaders 15 = .ok (.if_icmp .le 5, 3) := by decide +kernel
theorem dX11_kneaders_18 : decode cX11_kneaders 18 = .ok (.iconst (-1), 1) := by decide +kernel
theorem dX11_kneaders_19 : decode cX11_kneaders 19 = .ok (.ireturn, 1) := by decide +kernel
theorem dX11_kneaders_20 : decode cX11_kneaders 20 = .ok (.aload_n 0, 1) := by decide +kernel
theorem dX11_kneaders_21 : decode cX11_kneaders 21 = .ok (.getfield 89, 3) := by decide +kernel
theorem dX11_kneaders_24 : decode cX11_kneaders 24 = .ok (.aload_n 0, 1) := by decide +kernel
theorem dX11_kneaders_25 : decode cX11_kneaders 25 = .ok (.getfield 51, 3) := by decide +kernel
theorem dX11_kneaders_28 : decode cX11_kneaders 28 = .ok (.aload_n 0, 1) := by decide +kernel
theorem dX11_kneaders_29 : decode cX11_kneaders 29 = .ok (.getfield 68, 3) := by decide +kernel
theorem dX11_kneaders_32 : decode cX11_kneaders 32 = .ok (.iload_n 1, 1) := by decide +kernel
theorem dX11_kneaders_33 : decode cX11_kneaders 33 = .ok (.invokevirtual 241, 3) := by decide +kernel
theorem dX11_kneaders_36 : decode cX11_kneaders 36 = .ok (.iload_n 2, 1) := by decide +kernel
theorem dX11_kneaders_37 : decode cX11_kneaders 37 = .ok (.tableswitch 51 0 2 #[27, 35, 43], 27) := by decide +kernel
theorem dX11_kneaders_64 : decode cX11_kneaders 64 = .ok (.aload_n 0, 1) := by decide +kernel
theorem dX11_kneaders_65 : decode cX11_kneaders 65 = .ok (.getfield 89, 3) := by decide +kernel
theorem dX11_kneaders_68 : decode cX11_kneaders 68 = .ok (.getfield 244, 3) := by decide +kernel
theorem dX11_kneaders_71 : decode cX11_kneaders 71 = .ok (.ireturn, 1) := by decide +kernel
theorem dX11_kneaders_72 : decode cX11_kneaders 72 = .ok (.aload_n 0, 1) := by decide +kernel
theorem dX11_kneaders_73 : decode cX11_kneaders 73 = .ok (.getfield 89, 3) := by decide +kernel
theorem dX11_kneaders_76 : decode cX11_kneaders 76 = .ok (.invokevirtual 247, 3) := by decide +kernel
theorem dX11_kneaders_79 : decode cX11_kneaders 79 = .ok (.ireturn, 1) := by decide +kernel
theorem dX11_kneaders_80 : decode cX11_kneaders 80 = .ok (.aload_n 0, 1) := by decide +kernel
theorem dX11_kneaders_81 : decode cX11_kneaders 81 = .ok (.getfield 89, 3) := by decide +kernel
theorem dX11_kneaders_84 : decode cX11_kneaders 84 = .ok (.invokevirtual 250, 3) := by decide +kernel
theorem dX11_kneaders_87 : decode cX11_kneaders 87 = .ok (.ireturn, 1) := by decide +kernel
theorem dX11_kneaders_88 : decode cX11_kneaders 88 = .ok (.aload_n 0, 1) := by decide +kernel
theorem dX11_kneaders_89 : decode cX11_kneaders 89 = .ok (.getfield 89, 3) := by decide +kernel
theorem dX11_kneaders_92 : decode cX11_kneaders 92 = .ok (.getfield 244, 3) := by decide +kernel
theorem dX11_kneaders_95 : decode cX11_kneaders 95 = .ok (.ifCond .le 15, 3) := by decide +kernel
theorem dX11_kneaders_98 : decode cX11_kneaders 98 = .ok (.aload_n 0, 1) := by decide +kernel
theorem dX11_kneaders_99 : decode cX11_kneaders 99 = .ok (.getfield 89, 3) := by decide +kernel
theorem dX11_kneaders_102 : decode cX11_kneaders 102 = .ok (.getfield 253, 3) := by decide +kernel
theorem dX11_kneaders_105 : decode cX11_kneaders 105 = .ok (.iconst 0, 1) := by decide +kernel
theorem dX11_kneaders_106 : decode cX11_kneaders 106 = .ok (.iaload, 1) := by decide +kernel
theorem dX11_kneaders_107 : decode cX11_kneaders 107 = .ok (.goto 4, 3) := by decide +kernel
theorem dX11_kneaders_110 : decode cX11_kneaders 110 = .ok (.iconst (-1), 1) := by decide +kernel
theorem dX11_kneaders_111 : decode cX11_kneaders 111 = .ok (.ireturn, 1) := by decide +kernel
theorem dX11_look_0 : decode cX11_look 0 = .ok (.aload_n 0, 1) := by decide +kernel
theorem dX11_look_1 : decode cX11_look 1 = .ok (.iconst 2, 1) := by decide +kernel
theorem dX11_look_2 : decode cX11_look 2 = .ok (.iload_n 1, 1) := by decide +kernel
theorem dX11_look_3 : decode cX11_look 3 = .ok (.invokevirtual 148, 3) := by decide +kernel
theorem dX11_look_6 : decode cX11_look 6 = .ok (.ifCond .eq 20, 3) := by decide +kernel
theorem dX11_look_9 : decode cX11_look 9 = .ok (.aload_n 0, 1) := by decide +kernel
theorem dX11_look_10 : decode cX11_look 10 = .ok (.iload_n 2, 1) := by decide +kernel
theorem dX11_look_11 : decode cX11_look 11 = .ok (.invokevirtual 181, 3) := by decide +kernel
theorem dX11_look_14 : decode cX11_look 14 = .ok (.ifCond .eq 12, 3) := by decide +kernel
theorem dX11_look_17 : decode cX11_look 17 = .ok (.iload_n 3, 1) := by decide +kernel
theorem dX11_look_18 : decode cX11_look 18 = .ok (.ifCond .lt 8, 3) := by decide +kernel
theorem dX11_look_21 : decode cX11_look 21 = .ok (.iload_n 3, 1) := by decide +kernel
theorem dX11_look_22 : decode cX11_look 22 = .ok (.iconst 2, 1) := by decide +kernel
theorem dX11_look_23 : decode cX11_look 23 = .ok (.if_icmp .le 5, 3) := by decide +kernel
theorem dX11_look_26 : decode cX11_look 26 = .ok (.iconst (-1), 1) := by decide +kernel
theorem dX11_look_27 : decode cX11_look 27 = .ok (.ireturn, 1) := by decide +kernel
theorem dX11_look_28 : decode cX11_look 28 = .ok (.aload_n 0, 1) := by decide +kernel
theorem dX11_look_29 : decode cX11_look 29 = .ok (.getfield 89, 3) := by decide +kernel
theorem dX11_look_32 : decode cX11_look 32 = .ok (.aload_n 0, 1) := by decide +kernel
theorem dX11_look_33 : decode cX11_look 33 = .ok (.getfield 51, 3) := by decide +kernel
theorem dX11_look_36 : decode cX11_look 36 = .ok (.aload_n 0, 1) := by decide +kernel
theorem dX11_look_37 : decode cX11_look 37 = .ok (.getfield 68, 3) := by decide +kernel
theorem dX11_look_40 : decode cX11_look 40 = .ok (.iload_n 1, 1) := by decide +kernel
theorem dX11_look_41 : decode cX11_look 41 = .ok (.invokevirtual 241, 3) := by decide +kernel
theorem dX11_look_44 : decode cX11_look 44 = .ok (.aload_n 0, 1) := by decide +kernel
theorem dX11_look_45 : decode cX11_look 45 = .ok (.getfield 89, 3) := by decide +kernel
theorem dX11_look_48 : decode cX11_look 48 = .ok (.getfield 244, 3) := by decide +kernel
theorem dX11_look_51 : decode cX11_look 51 = .ok (.ifCond .ne 5, 3) := by decide +kernel
theorem dX11_look_54 : decode cX11_look 54 = .ok (.iconst (-1), 1) := by decide +kernel
theorem dX11_look_55 : decode cX11_look 55 = .ok (.ireturn, 1) := by decide +kernel
theorem dX11_look_56 : decode cX11_look 56 = .ok (.aload_n 0, 1) := by decide +kernel
theorem dX11_look_57 : decode cX11_look 57 = .ok (.getfield 89, 3) := by decide +kernel
theorem dX11_look_60 : decode cX11_look 60 = .ok (.aload_n 0, 1) := by decide +kernel
theorem dX11_look_61 : decode cX11_look 61 = .ok (.getfield 51, 3) := by decide +kernel
theorem dX11_look_64 : decode cX11_look 64 = .ok (.aload_n 0, 1) := by decide +kernel
theorem dX11_look_65 : decode cX11_look 65 = .ok (.getfield 68, 3) := by decide +kernel
theorem dX11_look_68 : decode cX11_look 68 = .ok (.iload_n 1, 1) := by decide +kernel
theorem dX11_look_69 : decode cX11_look 69 = .ok (.iload_n 2, 1) := by decide +kernel
theorem dX11_look_70 : decode cX11_look 70 = .ok (.invokevirtual 256, 3) := by decide +kernel
theorem dX11_look_73 : decode cX11_look 73 = .ok (.iconst (-1), 1) := by decide +kernel
theorem dX11_look_74 : decode cX11_look 74 = .ok (.istore 4, 2) := by decide +kernel
theorem dX11_look_76 : decode cX11_look 76 = .ok (.iconst (-1), 1) := by decide +kernel
theorem dX11_look_77 : decode cX11_look 77 = .ok (.istore 5, 2) := by decide +kernel
theorem dX11_look_79 : decode cX11_look 79 = .ok (.iconst 0, 1) := by decide +kernel
theorem dX11_look_80 : decode cX11_look 80 = .ok (.istore 6, 2) := by decide +kernel
theorem dX11_look_82 : decode cX11_look 82 = .ok (.iload 6, 2) := by decide +kernel
theorem dX11_look_84 : decode cX11_look 84 = .ok (.aload_n 0, 1) := by decide +kernel
theorem dX11_look_85 : decode cX11_look 85 = .ok (.getfield 51, 3) := by decide +kernel
theorem dX11_look_88 : decode cX11_look 88 = .ok (.getfield 138, 3) := by decide +kernel
theorem dX11_look_91 : decode cX11_look 91 = .ok (.iconst 1, 1) := by decide +kernel
theorem dX11_look_92 : decode cX11_look 92 = .ok (.iaload, 1) := by decide +kernel
theorem dX11_look_93 : decode cX11_look 93 = .ok (.if_icmp .ge 73, 3) := by decide +kernel
theorem dX11_look_96 : decode cX11_look 96 = .ok (.iconst 0, 1) := by decide +kernel
theorem dX11_look_97 : decode cX11_look 97 = .ok (.istore 7, 2) := by decide +kernel
theorem dX11_look_99 : decode cX11_look 99 = .ok (.iload 7, 2) := by decide +kernel
theorem dX11_look_101 : decode cX11_look 101 = .ok (.aload_n 0, 1) := by decide +kernel
theorem dX11_look_102 : decode cX11_look 102 = .ok (.getfield 51, 3) := by decide +kernel
theorem dX11_look_105 : decode cX11_look 105 = .ok (.getfield 138, 3) := by decide +kernel
theorem dX11_look_108 : decode cX11_look 108 = .ok (.iconst 0, 1) := by decide +kernel
theorem dX11_look_109 : decode cX11_look 109 = .ok (.iaload, 1) := by decide +kernel
theorem dX11_look_110 : decode cX11_look 110 = .ok (.if_icmp .ge 50, 3) := by decide +kernel
theorem dX11_look_113 : decode cX11_look 113 = .ok (.iload 6, 2) := by decide +kernel
theorem dX11_look_115 : decode cX11_look 115 = .ok (.iconst 4, 1) := by decide +kernel
theorem dX11_look_116 : decode cX11_look 116 = .ok (.imul, 1) := by decide +kernel
theorem dX11_look_117 : decode cX11_look 117 = .ok (.iload 7, 2) := by decide +kernel
theorem dX11_look_119 : decode cX11_look 119 = .ok (.iadd, 1) := by decide +kernel
theorem dX11_look_120 : decode cX11_look 120 = .ok (.istore 8, 2) := by decide +kernel
theorem dX11_look_122 : decode cX11_look 122 = .ok (.aload_n 0, 1) := by decide +kernel
theorem dX11_look_123 : decode cX11_look 123 = .ok (.getfield 89, 3) := by decide +kernel
theorem dX11_look_126 : decode cX11_look 126 = .ok (.iload 8, 2) := by decide +kernel
theorem dX11_look_128 : decode cX11_look 128 = .ok (.invokevirtual 260, 3) := by decide +kernel
theorem dX11_look_131 : decode cX11_look 131 = .ok (.istore 9, 2) := by decide +kernel
theorem dX11_look_133 : decode cX11_look 133 = .ok (.iload 4, 2) := by decide +kernel
theorem dX11_look_135 : decode cX11_look 135 = .ok (.iconst (-1), 1) := by decide +kernel
theorem dX11_look_136 : decode cX11_look 136 = .ok (.if_icmp .eq 10, 3) := by decide +kernel
theorem dX11_look_139 : decode cX11_look 139 = .ok (.iload 9, 2) := by decide +kernel
theorem dX11_look_141 : decode cX11_look 141 = .ok (.iload 5, 2) := by decide +kernel
theorem dX11_look_143 : decode cX11_look 143 = .ok (.if_icmp .ge 11, 3) := by decide +kernel
theorem dX11_look_146 : decode cX11_look 146 = .ok (.iload 8, 2) := by decide +kernel
theorem dX11_look_148 : decode cX11_look 148 = .ok (.istore 4, 2) := by decide +kernel
theorem dX11_look_150 : decode cX11_look 150 = .ok (.iload 9, 2) := by decide +kernel
theorem dX11_look_152 : decode cX11_look 152 = .ok (.istore 5, 2) := by decide +kernel
theorem dX11_look_154 : decode cX11_look 154 = .ok (.iinc 7 1, 3) := by decide +kernel
theorem dX11_look_157 : decode cX11_look 157 = .ok (.goto (-58), 3) := by decide +kernel
theorem dX11_look_160 : decode cX11_look 160 = .ok (.iinc 6 1, 3) := by decide +kernel
theorem dX11_look_163 : decode cX11_look 163 = .ok (.goto (-81), 3) := by decide +kernel
theorem dX11_look_166 : decode cX11_look 166 = .ok (.iload 4, 2) := by decide +kernel
theorem dX11_look_168 : decode cX11_look 168 = .ok (.iconst (-1), 1) := by decide +kernel
theorem dX11_look_169 : decode cX11_look 169 = .ok (.if_icmp .ne 5, 3) := by decide +kernel
theorem dX11_look_172 : decode cX11_look 172 = .ok (.iconst (-1), 1) := by decide +kernel
theorem dX11_look_173 : decode cX11_look 173 = .ok (.ireturn, 1) := by decide +kernel
theorem dX11_look_174 : decode cX11_look 174 = .ok (.iload_n 3, 1) := by decide +kernel
theorem dX11_look_175 : decode cX11_look 175 = .ok (.ifCond .ne 10, 3) := by decide +kernel
theorem dX11_look_178 : decode cX11_look 178 = .ok (.iload 4, 2) := by decide +kernel
theorem dX11_look_180 : decode cX11_look 180 = .ok (.iconst 4, 1) := by decide +kernel
theorem dX11_look_181 : decode cX11_look 181 = .ok (.idiv, 1) := by decide +kernel
theorem dX11_look_182 : decode cX11_look 182 = .ok (.goto 17, 3) := by decide +kernel
theorem dX11_look_185 : decode cX11_look 185 = .ok (.iload_n 3, 1) := by decide +kernel
theorem dX11_look_186 : decode cX11_look 186 = .ok (.iconst 1, 1) := by decide +kernel
theorem dX11_look_187 : decode cX11_look 187 = .ok (.if_icmp .ne 10, 3) := by decide +kernel
theorem dX11_look_190 : decode cX11_look 190 = .ok (.iload 4, 2) := by decide +kernel
theorem dX11_look_192 : decode cX11_look 192 = .ok (.iconst 4, 1) := by decide +kernel
theorem dX11_look_193 : decode cX11_look 193 = .ok (.irem, 1) := by decide +kernel
theorem dX11_look_194 : decode cX11_look 194 = .ok (.goto 5, 3) := by decide +kernel
theorem dX11_look_197 : decode cX11_look 197 = .ok (.iload 5, 2) := by decide +kernel
theorem dX11_look_199 : decode cX11_look 199 = .ok (.ireturn, 1) := by decide +kernel
theorem dX11_ask_0 : decode cX11_ask 0 = .ok (.aload_n 0, 1) := by decide +kernel
theorem dX11_ask_1 : decode cX11_ask 1 = .ok (.getfield 37, 3) := by decide +kernel
theorem dX11_ask_4 : decode cX11_ask 4 = .ok (.istore_n 2, 1) := by decide +kernel
theorem dX11_ask_5 : decode cX11_ask 5 = .ok (.aload_n 0, 1) := by decide +kernel
theorem dX11_ask_6 : decode cX11_ask 6 = .ok (.iconst 0, 1) := by decide +kernel
theorem dX11_ask_7 : decode cX11_ask 7 = .ok (.putfield 37, 3) := by decide +kernel
theorem dX11_ask_10 : decode cX11_ask 10 = .ok (.aload_n 0, 1) := by decide +kernel
theorem dX11_ask_11 : decode cX11_ask 11 = .ok (.iconst 1, 1) := by decide +kernel
theorem dX11_ask_12 : decode cX11_ask 12 = .ok (.iload_n 1, 1) := by decide +kernel
theorem dX11_ask_13 : decode cX11_ask 13 = .ok (.invokevirtual 148, 3) := by decide +kernel
theorem dX11_ask_16 : decode cX11_ask 16 = .ok (.ifCond .ne 7, 3) := by decide +kernel
theorem dX11_ask_19 : decode cX11_ask 19 = .ok (.ldc2_w 263, 3) := by decide +kernel
theorem dX11_ask_22 : decode cX11_ask 22 = .ok (.lreturn, 1) := by decide +kernel
theorem dX11_ask_23 : decode cX11_ask 23 = .ok (.aload_n 0, 1) := by decide +kernel
theorem dX11_ask_24 : decode cX11_ask 24 = .ok (.getfield 20, 3) := by decide +kernel
theorem dX11_ask_27 : decode cX11_ask 27 = .ok (.iload_n 2, 1) := by decide +kernel
theorem dX11_ask_28 : decode cX11_ask 28 = .ok (.aload_n 0, 1) := by decide +kernel
theorem dX11_ask_29 : decode cX11_ask 29 = .ok (.getfield 44, 3) := by decide +kernel
theorem dX11_ask_32 : decode cX11_ask 32 = .ok (.invokevirtual 265, 3) := by decide +kernel
theorem dX11_ask_35 : decode cX11_ask 35 = .ok (.istore_n 3, 1) := by decide +kernel
theorem dX11_ask_36 : decode cX11_ask 36 = .ok (.iload_n 3, 1) := by decide +kernel
theorem dX11_ask_37 : decode cX11_ask 37 = .ok (.iconst (-1), 1) := by decide +kernel
theorem dX11_ask_38 : decode cX11_ask 38 = .ok (.if_icmp .ne 9, 3) := by decide +kernel
theorem dX11_ask_41 : decode cX11_ask 41 = .ok (.ldc2_w 263, 3) := by decide +kernel
theorem dX11_ask_44 : decode cX11_ask 44 = .ok (.goto 9, 3) := by decide +kernel
theorem dX11_ask_47 : decode cX11_ask 47 = .ok (.aload_n 0, 1) := by decide +kernel
theorem dX11_ask_48 : decode cX11_ask 48 = .ok (.iload_n 3, 1) := by decide +kernel
theorem dX11_ask_49 : decode cX11_ask 49 = .ok (.iload_n 1, 1) := by decide +kernel
theorem dX11_ask_50 : decode cX11_ask 50 = .ok (.invokevirtual 269, 3) := by decide +kernel
theorem dX11_ask_53 : decode cX11_ask 53 = .ok (.lreturn, 1) := by decide +kernel
theorem dX11_image_0 : decode cX11_image 0 = .ok (.aload_n 0, 1) := by decide +kernel
theorem dX11_image_1 : decode cX11_image 1 = .ok (.getfield 96, 3) := by decide +kernel
theorem dX11_image_4 : decode cX11_image 4 = .ok (.aload_n 0, 1) := by decide +kernel
theorem dX11_image_5 : decode cX11_image 5 = .ok (.getfield 51, 3) := by decide +kernel
theorem dX11_image_8 : decode cX11_image 8 = .ok (.aload_n 0, 1) := by decide +kernel
theorem dX11_image_9 : decode cX11_image 9 = .ok (.getfield 68, 3) := by decide +kernel
theorem dX11_image_12 : decode cX11_image 12 = .ok (.invokevirtual 273, 3) := by decide +kernel
theorem dX11_image_15 : decode cX11_image 15 = .ok (.aload_n 0, 1) := by decide +kernel
theorem dX11_image_16 : decode cX11_image 16 = .ok (.getfield 96, 3) := by decide +kernel
theorem dX11_image_19 : decode cX11_image 19 = .ok (.getfield 276, 3) := by decide +kernel
theorem dX11_image_22 : decode cX11_image 22 = .ok (.ireturn, 1) := by decide +kernel
theorem dX11_octet_0 : decode cX11_octet 0 = .ok (.iload_n 1, 1) := by decide +kernel
theorem dX11_octet_1 : decode cX11_octet 1 = .ok (.ifCond .lt 26, 3) := by decide +kernel
theorem dX11_octet_4 : decode cX11_octet 4 = .ok (.iload_n 1, 1) := by decide +kernel
theorem dX11_octet_5 : decode cX11_octet 5 = .ok (.aload_n 0, 1) := by decide +kernel
theorem dX11_octet_6 : decode cX11_octet 6 = .ok (.getfield 96, 3) := by decide +kernel
theorem dX11_octet_9 : decode cX11_octet 9 = .ok (.getfield 276, 3) := by decide +kernel
theorem dX11_octet_12 : decode cX11_octet 12 = .ok (.if_icmp .ge 15, 3) := by decide +kernel
theorem dX11_octet_15 : decode cX11_octet 15 = .ok (.aload_n 0, 1) := by decide +kernel
theorem dX11_octet_16 : decode cX11_octet 16 = .ok (.getfield 96, 3) := by decide +kernel
theorem dX11_octet_19 : decode cX11_octet 19 = .ok (.getfield 279, 3) := by decide +kernel
theorem dX11_octet_22 : decode cX11_octet 22 = .ok (.iload_n 1, 1) := by decide +kernel
theorem dX11_octet_23 : decode cX11_octet 23 = .ok (.iaload, 1) := by decide +kernel
theorem dX11_octet_24 : decode cX11_octet 24 = .ok (.goto 4, 3) := by decide +kernel
theorem dX11_octet_27 : decode cX11_octet 27 = .ok (.iconst (-1), 1) := by decide +kernel
theorem dX11_octet_28 : decode cX11_octet 28 = .ok (.ireturn, 1) := by decide +kernel
theorem dX11_on_0 : decode cX11_on 0 = .ok (.aload_n 0, 1) := by decide +kernel
theorem dX11_on_1 : decode cX11_on 1 = .ok (.getfield 34, 3) := by decide +kernel
theorem dX11_on_4 : decode cX11_on 4 = .ok (.aload_n 0, 1) := by decide +kernel
theorem dX11_on_5 : decode cX11_on 5 = .ok (.getfield 37, 3) := by decide +kernel
theorem dX11_on_8 : decode cX11_on 8 = .ok (.aload_n 0, 1) := by decide +kernel
theorem dX11_on_9 : decode cX11_on 9 = .ok (.getfield 51, 3) := by decide +kernel
theorem dX11_on_12 : decode cX11_on 12 = .ok (.invokestatic 282, 3) := by decide +kernel
theorem dX11_on_15 : decode cX11_on 15 = .ok (.istore_n 1, 1) := by decide +kernel
theorem dX11_on_16 : decode cX11_on 16 = .ok (.aload_n 0, 1) := by decide +kernel
theorem dX11_on_17 : decode cX11_on 17 = .ok (.iconst 0, 1) := by decide +kernel
theorem dX11_on_18 : decode cX11_on 18 = .ok (.putfield 37, 3) := by decide +kernel
theorem dX11_on_21 : decode cX11_on 21 = .ok (.iload_n 1, 1) := by decide +kernel
theorem dX11_on_22 : decode cX11_on 22 = .ok (.ifCond .ne 11, 3) := by decide +kernel
theorem dX11_on_25 : decode cX11_on 25 = .ok (.aload_n 0, 1) := by decide +kernel
theorem dX11_on_26 : decode cX11_on 26 = .ok (.iconst 5, 1) := by decide +kernel
theorem dX11_on_27 : decode cX11_on 27 = .ok (.invokevirtual 107, 3) := by decide +kernel
theorem dX11_on_30 : decode cX11_on 30 = .ok (.pop, 1) := by decide +kernel
theorem dX11_on_31 : decode cX11_on 31 = .ok (.iconst 0, 1) := by decide +kernel
theorem dX11_on_32 : decode cX11_on 32 = .ok (.ireturn, 1) := by decide +kernel
theorem dX11_on_33 : decode cX11_on 33 = .ok (.aload_n 0, 1) := by decide +kernel
theorem dX11_on_34 : decode cX11_on 34 = .ok (.getfield 34, 3) := by decide +kernel
theorem dX11_on_37 : decode cX11_on 37 = .ok (.aload_n 0, 1) := by decide +kernel
theorem dX11_on_38 : decode cX11_on 38 = .ok (.getfield 51, 3) := by decide +kernel
theorem dX11_on_41 : decode cX11_on 41 = .ok (.aload_n 0, 1) := by decide +kernel
theorem dX11_on_42 : decode cX11_on 42 = .ok (.getfield 68, 3) := by decide +kernel
theorem dX11_on_45 : decode cX11_on 45 = .ok (.invokestatic 285, 3) := by decide +kernel
theorem dX11_on_48 : decode cX11_on 48 = .ok (.aload_n 0, 1) := by decide +kernel
theorem dX11_on_49 : decode cX11_on 49 = .ok (.getfield 82, 3) := by decide +kernel
theorem dX11_on_52 : decode cX11_on 52 = .ok (.iconst 0, 1) := by decide +kernel
theorem dX11_on_53 : decode cX11_on 53 = .ok (.putfield 126, 3) := by decide +kernel
theorem dX11_on_56 : decode cX11_on 56 = .ok (.iconst 1, 1) := by decide +kernel
theorem dX11_on_57 : decode cX11_on 57 = .ok (.ireturn, 1) := by decide +kernel
theorem dX11_status_0 : decode cX11_status 0 = .ok (.iload_n 1, 1) := by decide +kernel
theorem dX11_status_1 : decode cX11_status 1 = .ok (.ifCond .lt 21, 3) := by decide +kernel
theorem dX11_status_4 : decode cX11_status 4 = .ok (.iload_n 1, 1) := by decide +kernel
theorem dX11_status_5 : decode cX11_status 5 = .ok (.aload_n 0, 1) := by decide +kernel
theorem dX11_status_6 : decode cX11_status 6 = .ok (.getfield 104, 3) := by decide +kernel
theorem dX11_status_9 : decode cX11_status 9 = .ok (.arraylength, 1) := by decide +kernel
theorem dX11_status_10 : decode cX11_status 10 = .ok (.if_icmp .ge 12, 3) := by decide +kernel
theorem dX11_status_13 : decode cX11_status 13 = .ok (.aload_n 0, 1) := by decide +kernel
theorem dX11_status_14 : decode cX11_status 14 = .ok (.getfield 104, 3) := by decide +kernel
theorem dX11_status_17 : decode cX11_status 17 = .ok (.iload_n 1, 1) := by decide +kernel
theorem dX11_status_18 : decode cX11_status 18 = .ok (.iaload, 1) := by decide +kernel
theorem dX11_status_19 : decode cX11_status 19 = .ok (.goto 4, 3) := by decide +kernel
theorem dX11_status_22 : decode cX11_status 22 = .ok (.iconst (-1), 1) := by decide +kernel
theorem dX11_status_23 : decode cX11_status 23 = .ok (.ireturn, 1) := by decide +kernel
theorem dX11_refuse_0 : decode cX11_refuse 0 = .ok (.aload_n 0, 1) := by decide +kernel
theorem dX11_refuse_1 : decode cX11_refuse 1 = .ok (.getfield 104, 3) := by decide +kernel
theorem dX11_refuse_4 : decode cX11_refuse 4 = .ok (.iload_n 1, 1) := by decide +kernel
theorem dX11_refuse_5 : decode cX11_refuse 5 = .ok (.dup2, 1) := by decide +kernel
theorem dX11_refuse_6 : decode cX11_refuse 6 = .ok (.iaload, 1) := by decide +kernel
theorem dX11_refuse_7 : decode cX11_refuse 7 = .ok (.iconst 1, 1) := by decide +kernel
theorem dX11_refuse_8 : decode cX11_refuse 8 = .ok (.iadd, 1) := by decide +kernel
theorem dX11_refuse_9 : decode cX11_refuse 9 = .ok (.iastore, 1) := by decide +kernel
theorem dX11_refuse_10 : decode cX11_refuse 10 = .ok (.iconst (-1), 1) := by decide +kernel
theorem dX11_refuse_11 : decode cX11_refuse 11 = .ok (.ireturn, 1) := by decide +kernel
theorem dX11_putBytes_0 : decode cX11_putBytes 0 = .ok (.bipush 24, 2) := by decide +kernel
theorem dX11_putBytes_2 : decode cX11_putBytes 2 = .ok (.istore_n 2, 1) := by decide +kernel
theorem dX11_putBytes_3 : decode cX11_putBytes 3 = .ok (.iload_n 2, 1) := by decide +kernel
theorem dX11_putBytes_4 : decode cX11_putBytes 4 = .ok (.ifCond .lt 47, 3) := by decide +kernel
theorem dX11_putBytes_7 : decode cX11_putBytes 7 = .ok (.aload_n 0, 1) := by decide +kernel
theorem dX11_putBytes_8 : decode cX11_putBytes 8 = .ok (.getfield 37, 3) := by decide +kernel
theorem dX11_putBytes_11 : decode cX11_putBytes 11 = .ok (.aload_n 0, 1) := by decide +kernel
theorem dX11_putBytes_12 : decode cX11_putBytes 12 = .ok (.getfield 34, 3) := by decide +kernel
theorem dX11_putBytes_15 : decode cX11_putBytes 15 = .ok (.arraylength, 1) := by decide +kernel
theorem dX11_putBytes_16 : decode cX11_putBytes 16 = .ok (.if_icmp .ge 35, 3) := by decide +kernel
theorem dX11_putBytes_19 : decode cX11_putBytes 19 = .ok (.aload_n 0, 1) := by decide +kernel
theorem dX11_putBytes_20 : decode cX11_putBytes 20 = .ok (.getfield 34, 3) := by decide +kernel
theorem dX11_putBytes_23 : decode cX11_putBytes 23 = .ok (.aload_n 0, 1) := by decide +kernel
theorem dX11_putBytes_24 : decode cX11_putBytes 24 = .ok (.getfield 37, 3) := by decide +kernel
theorem dX11_putBytes_27 : decode cX11_putBytes 27 = .ok (.iload_n 1, 1) := by decide +kernel
theorem dX11_putBytes_28 : decode cX11_putBytes 28 = .ok (.iload_n 2, 1) := by decide +kernel
theorem dX11_putBytes_29 : decode cX11_putBytes 29 = .ok (.iushr, 1) := by decide +kernel
theorem dX11_putBytes_30 : decode cX11_putBytes 30 = .ok (.sipush 255, 3) := by decide +kernel
theorem dX11_putBytes_33 : decode cX11_putBytes 33 = .ok (.iand, 1) := by decide +kernel
theorem dX11_putBytes_34 : decode cX11_putBytes 34 = .ok (.iastore, 1) := by decide +kernel
theorem dX11_putBytes_35 : decode cX11_putBytes 35 = .ok (.aload_n 0, 1) := by decide +kernel
theorem dX11_putBytes_36 : decode cX11_putBytes 36 = .ok (.dup, 1) := by decide +kernel
theorem dX11_putBytes_37 : decode cX11_putBytes 37 = .ok (.getfield 37, 3) := by decide +kernel
theorem dX11_putBytes_40 : decode cX11_putBytes 40 = .ok (.iconst 1, 1) := by decide +kernel
theorem dX11_putBytes_41 : decode cX11_putBytes 41 = .ok (.iadd, 1) := by decide +kernel
theorem dX11_putBytes_42 : decode cX11_putBytes 42 = .ok (.putfield 37, 3) := by decide +kernel
theorem dX11_putBytes_45 : decode cX11_putBytes 45 = .ok (.iinc 2 (-8), 3) := by decide +kernel
theorem dX11_putBytes_48 : decode cX11_putBytes 48 = .ok (.goto (-45), 3) := by decide +kernel
theorem dX11_putBytes_51 : decode cX11_putBytes 51 = .ok (.return_, 1) := by decide +kernel
theorem dX11_isThere_0 : decode cX11_isThere 0 = .ok (.iload_n 2, 1) := by decide +kernel
theorem dX11_isThere_1 : decode cX11_isThere 1 = .ok (.ifCond .lt 20, 3) := by decide +kernel
theorem dX11_isThere_4 : decode cX11_isThere 4 = .ok (.iload_n 2, 1) := by decide +kernel
theorem dX11_isThere_5 : decode cX11_isThere 5 = .ok (.aload_n 0, 1) := by decide +kernel
theorem dX11_isThere_6 : decode cX11_isThere 6 = .ok (.getfield 51, 3) := by decide +kernel
theorem dX11_isThere_9 : decode cX11_isThere 9 = .ok (.getfield 138, 3) := by decide +kernel
theorem dX11_isThere_12 : decode cX11_isThere 12 = .ok (.iload_n 1, 1) := by decide +kernel
theorem dX11_isThere_13 : decode cX11_isThere 13 = .ok (.iaload, 1) := by decide +kernel
theorem dX11_isThere_14 : decode cX11_isThere 14 = .ok (.if_icmp .ge 7, 3) := by decide +kernel
theorem dX11_isThere_17 : decode cX11_isThere 17 = .ok (.iconst 1, 1) := by decide +kernel
theorem dX11_isThere_18 : decode cX11_isThere 18 = .ok (.goto 4, 3) := by decide +kernel
theorem dX11_isThere_21 : decode cX11_isThere 21 = .ok (.iconst 0, 1) := by decide +kernel
theorem dX11_isThere_22 : decode cX11_isThere 22 = .ok (.ireturn, 1) := by decide +kernel
theorem dX11_areThere_0 : decode cX11_areThere 0 = .ok (.aload_n 0, 1) := by decide +kernel
theorem dX11_areThere_1 : decode cX11_areThere 1 = .ok (.iload_n 1, 1) := by decide +kernel
theorem dX11_areThere_2 : decode cX11_areThere 2 = .ok (.iload_n 2, 1) := by decide +kernel
theorem dX11_areThere_3 : decode cX11_areThere 3 = .ok (.invokevirtual 148, 3) := by decide +kernel
theorem dX11_areThere_6 : decode cX11_areThere 6 = .ok (.ifCond .eq 16, 3) := by decide +kernel
theorem dX11_areThere_9 : decode cX11_areThere 9 = .ok (.aload_n 0, 1) := by decide +kernel
theorem dX11_areThere_10 : decode cX11_areThere 10 = .ok (.iconst 0, 1) := by decide +kernel
theorem dX11_areThere_11 : decode cX11_areThere 11 = .ok (.iload_n 3, 1) := by decide +kernel
theorem dX11_areThere_12 : decode cX11_areThere 12 = .ok (.invokevirtual 148, 3) := by decide +kernel
theorem dX11_areThere_15 : decode cX11_areThere 15 = .ok (.ifCond .eq 7, 3) := by decide +kernel
theorem dX11_areThere_18 : decode cX11_areThere 18 = .ok (.iconst 1, 1) := by decide +kernel
theorem dX11_areThere_19 : decode cX11_areThere 19 = .ok (.goto 4, 3) := by decide +kernel
theorem dX11_areThere_22 : decode cX11_areThere 22 = .ok (.iconst 0, 1) := by decide +kernel
theorem dX11_areThere_23 : decode cX11_areThere 23 = .ok (.ireturn, 1) := by decide +kernel
theorem dX11_isAhead_0 : decode cX11_isAhead 0 = .ok (.iload_n 1, 1) := by decide +kernel
theorem dX11_isAhead_1 : decode cX11_isAhead 1 = .ok (.ifCond .lt 29, 3) := by decide +kernel
theorem dX11_isAhead_4 : decode cX11_isAhead 4 = .ok (.iload_n 1, 1) := by decide +kernel
theorem dX11_isAhead_5 : decode cX11_isAhead 5 = .ok (.sipush 200, 3) := by decide +kernel
theorem dX11_isAhead_8 : decode cX11_isAhead 8 = .ok (.if_icmp .gt 22, 3) := by decide +kernel
theorem dX11_isAhead_11 : decode cX11_isAhead 11 = .ok (.aload_n 0, 1) := by decide +kernel
theorem dX11_isAhead_12 : decode cX11_isAhead 12 = .ok (.getfield 68, 3) := by decide +kernel
theorem dX11_isAhead_15 : decode cX11_isAhead 15 = .ok (.getfield 141, 3) := by decide +kernel
theorem dX11_isAhead_18 : decode cX11_isAhead 18 = .ok (.iload_n 1, 1) := by decide +kernel
theorem dX11_isAhead_19 : decode cX11_isAhead 19 = .ok (.iadd, 1) := by decide +kernel
theorem dX11_isAhead_20 : decode cX11_isAhead 20 = .ok (.sipush 9999, 3) := by decide +kernel
theorem dX11_isAhead_23 : decode cX11_isAhead 23 = .ok (.if_icmp .gt 7, 3) := by decide +kernel
theorem dX11_isAhead_26 : decode cX11_isAhead 26 = .ok (.iconst 1, 1) := by decide +kernel
theorem dX11_isAhead_27 : decode cX11_isAhead 27 = .ok (.goto 4, 3) := by decide +kernel
theorem dX11_isAhead_30 : decode cX11_isAhead 30 = .ok (.iconst 0, 1) := by decide +kernel
theorem dX11_isAhead_31 : decode cX11_isAhead 31 = .ok (.ireturn, 1) := by decide +kernel
theorem dX11_isFelt_0 : decode cX11_isFelt 0 = .ok (.iload_n 0, 1) := by decide +kernel
theorem dX11_isFelt_1 : decode cX11_isFelt 1 = .ok (.ifCond .lt 13, 3) := by decide +kernel
theorem dX11_isFelt_4 : decode cX11_isFelt 4 = .ok (.iload_n 0, 1) := by decide +kernel
theorem dX11_isFelt_5 : decode cX11_isFelt 5 = .ok (.bipush 99, 2) := by decide +kernel
theorem dX11_isFelt_7 : decode cX11_isFelt 7 = .ok (.if_icmp .gt 7, 3) := by decide +kernel
theorem dX11_isFelt_10 : decode cX11_isFelt 10 = .ok (.iconst 1, 1) := by decide +kernel
theorem dX11_isFelt_11 : decode cX11_isFelt 11 = .ok (.goto 4, 3) := by decide +kernel
theorem dX11_isFelt_14 : decode cX11_isFelt 14 = .ok (.iconst 0, 1) := by decide +kernel
theorem dX11_isFelt_15 : decode cX11_isFelt 15 = .ok (.ireturn, 1) := by decide +kernel
theorem dX11_asFelt_0 : decode cX11_asFelt 0 = .ok (.iconst 0, 1) := by decide +kernel
theorem dX11_asFelt_1 : decode cX11_asFelt 1 = .ok (.bipush 99, 2) := by decide +kernel
theorem dX11_asFelt_3 : decode cX11_asFelt 3 = .ok (.iload_n 0, 1) := by decide +kernel
theorem dX11_asFelt_4 : decode cX11_asFelt 4 = .ok (.invokestatic 289, 3) := by decide +kernel
theorem dX11_asFelt_7 : decode cX11_asFelt 7 = .ok (.invokestatic 292, 3) := by decide +kernel
theorem dX11_asFelt_10 : decode cX11_asFelt 10 = .ok (.ireturn, 1) := by decide +kernel
theorem dX11_deedsDoneNow_0 : decode cX11_deedsDoneNow 0 = .ok (.iconst 0, 1) := by decide +kernel
theorem dX11_deedsDoneNow_1 : decode cX11_deedsDoneNow 1 = .ok (.istore_n 1, 1) := by decide +kernel
theorem dX11_deedsDoneNow_2 : decode cX11_deedsDoneNow 2 = .ok (.iconst 0, 1) := by decide +kernel
theorem dX11_deedsDoneNow_3 : decode cX11_deedsDoneNow 3 = .ok (.istore_n 2, 1) := by decide +kernel
theorem dX11_deedsDoneNow_4 : decode cX11_deedsDoneNow 4 = .ok (.iload_n 2, 1) := by decide +kernel
theorem dX11_deedsDoneNow_5 : decode cX11_deedsDoneNow 5 = .ok (.aload_n 0, 1) := by decide +kernel
theorem dX11_deedsDoneNow_6 : decode cX11_deedsDoneNow 6 = .ok (.getfield 51, 3) := by decide +kernel
theorem dX11_deedsDoneNow_9 : decode cX11_deedsDoneNow 9 = .ok (.getfield 138, 3) := by decide +kernel
theorem dX11_deedsDoneNow_12 : decode cX11_deedsDoneNow 12 = .ok (.iconst 1, 1) := by decide +kernel
theorem dX11_deedsDoneNow_13 : decode cX11_deedsDoneNow 13 = .ok (.iaload, 1) := by decide +kernel
theorem dX11_deedsDoneNow_14 : decode cX11_deedsDoneNow 14 = .ok (.if_icmp .ge 31, 3) := by decide +kernel
theorem dX11_deedsDoneNow_17 : decode cX11_deedsDoneNow 17 = .ok (.iload_n 1, 1) := by decide +kernel
theorem dX11_deedsDoneNow_18 : decode cX11_deedsDoneNow 18 = .ok (.aload_n 0, 1) := by decide +kernel
theorem dX11_deedsDoneNow_19 : decode cX11_deedsDoneNow 19 = .ok (.getfield 61, 3) := by decide +kernel
theorem dX11_deedsDoneNow_22 : decode cX11_deedsDoneNow 22 = .ok (.aload_n 0, 1) := by decide +kernel
theorem dX11_deedsDoneNow_23 : decode cX11_deedsDoneNow 23 = .ok (.getfield 51, 3) := by decide +kernel
theorem dX11_deedsDoneNow_26 : decode cX11_deedsDoneNow 26 = .ok (.aload_n 0, 1) := by decide +kernel
theorem dX11_deedsDoneNow_27 : decode cX11_deedsDoneNow 27 = .ok (.getfield 68, 3) := by decide +kernel
theorem dX11_deedsDoneNow_30 : decode cX11_deedsDoneNow 30 = .ok (.iload_n 2, 1) := by decide +kernel
theorem dX11_deedsDoneNow_31 : decode cX11_deedsDoneNow 31 = .ok (.invokevirtual 177, 3) := by decide +kernel
theorem dX11_deedsDoneNow_34 : decode cX11_deedsDoneNow 34 = .ok (.invokestatic 207, 3) := by decide +kernel
theorem dX11_deedsDoneNow_37 : decode cX11_deedsDoneNow 37 = .ok (.iadd, 1) := by decide +kernel
theorem dX11_deedsDoneNow_38 : decode cX11_deedsDoneNow 38 = .ok (.istore_n 1, 1) := by decide +kernel
theorem dX11_deedsDoneNow_39 : decode cX11_deedsDoneNow 39 = .ok (.iinc 2 1, 3) := by decide +kernel
theorem dX11_deedsDoneNow_42 : decode cX11_deedsDoneNow 42 = .ok (.goto (-38), 3) := by decide +kernel
theorem dX11_deedsDoneNow_45 : decode cX11_deedsDoneNow 45 = .ok (.iload_n 1, 1) := by decide +kernel
theorem dX11_deedsDoneNow_46 : decode cX11_deedsDoneNow 46 = .ok (.ireturn, 1) := by decide +kernel
theorem dX11_lowestOf_0 : decode cX11_lowestOf 0 = .ok (.iconst 0, 1) := by decide +kernel
theorem dX11_lowestOf_1 : decode cX11_lowestOf 1 = .ok (.istore_n 1, 1) := by decide +kernel
theorem dX11_lowestOf_2 : decode cX11_lowestOf 2 = .ok (.iload_n 1, 1) := by decide +kernel
theorem dX11_lowestOf_3 : decode cX11_lowestOf 3 = .ok (.getstatic 295, 3) := by decide +kernel
theorem dX11_lowestOf_6 : decode cX11_lowestOf 6 = .ok (.iconst 4, 1) := by decide +kernel
theorem dX11_lowestOf_7 : decode cX11_lowestOf 7 = .ok (.iaload, 1) := by decide +kernel
theorem dX11_lowestOf_8 : decode cX11_lowestOf 8 = .ok (.if_icmp .ge 17, 3) := by decide +kernel
theorem dX11_lowestOf_11 : decode cX11_lowestOf 11 = .ok (.iload_n 0, 1) := by decide +kernel
theorem dX11_lowestOf_12 : decode cX11_lowestOf 12 = .ok (.iload_n 1, 1) := by decide +kernel
theorem dX11_lowestOf_13 : decode cX11_lowestOf 13 = .ok (.ishr, 1) := by decide +kernel
theorem dX11_lowestOf_14 : decode cX11_lowestOf 14 = .ok (.iconst 1, 1) := by decide +kernel
theorem dX11_lowestOf_15 : decode cX11_lowestOf 15 = .ok (.iand, 1) := by decide +kernel
theorem dX11_lowestOf_16 : decode cX11_lowestOf 16 = .ok (.ifCond .ne 9, 3) := by decide +kernel
theorem dX11_lowestOf_19 : decode cX11_lowestOf 19 = .ok (.iinc 1 1, 3) := by decide +kernel
theorem dX11_lowestOf_22 : decode cX11_lowestOf 22 = .ok (.goto (-20), 3) := by decide +kernel
theorem dX11_lowestOf_25 : decode cX11_lowestOf 25 = .ok (.iload_n 1, 1) := by decide +kernel
theorem dX11_lowestOf_26 : decode cX11_lowestOf 26 = .ok (.ireturn, 1) := by decide +kernel
theorem dX11_unlikeness_0 : decode cX11_unlikeness 0 = .ok (.iconst 0, 1) := by decide +kernel
theorem dX11_unlikeness_1 : decode cX11_unlikeness 1 = .ok (.istore_n 3, 1) := by decide +kernel
theorem dX11_unlikeness_2 : decode cX11_unlikeness 2 = .ok (.iconst 0, 1) := by decide +kernel
theorem dX11_unlikeness_3 : decode cX11_unlikeness 3 = .ok (.istore 4, 2) := by decide +kernel
theorem dX11_unlikeness_5 : decode cX11_unlikeness 5 = .ok (.iload 4, 2) := by decide +kernel
theorem dX11_unlikeness_7 : decode cX11_unlikeness 7 = .ok (.aload_n 0, 1) := by decide +kernel
theorem dX11_unlikeness_8 : decode cX11_unlikeness 8 = .ok (.getfield 51, 3) := by decide +kernel
theorem dX11_unlikeness_11 : decode cX11_unlikeness 11 = .ok (.getfield 138, 3) := by decide +kernel
theorem dX11_unlikeness_14 : decode cX11_unlikeness 14 = .ok (.iconst 0, 1) := by decide +kernel
theorem dX11_unlikeness_15 : decode cX11_unlikeness 15 = .ok (.iaload, 1) := by decide +kernel
theorem dX11_unlikeness_16 : decode cX11_unlikeness 16 = .ok (.if_icmp .ge 44, 3) := by decide +kernel
theorem dX11_unlikeness_19 : decode cX11_unlikeness 19 = .ok (.iload_n 3, 1) := by decide +kernel
theorem dX11_unlikeness_20 : decode cX11_unlikeness 20 = .ok (.aload_n 0, 1) := by decide +kernel
theorem dX11_unlikeness_21 : decode cX11_unlikeness 21 = .ok (.getfield 68, 3) := by decide +kernel
theorem dX11_unlikeness_24 : decode cX11_unlikeness 24 = .ok (.getfield 159, 3) := by decide +kernel
theorem dX11_unlikeness_27 : decode cX11_unlikeness 27 = .ok (.iload_n 1, 1) := by decide +kernel
theorem dX11_unlikeness_28 : decode cX11_unlikeness 28 = .ok (.iconst 4, 1) := by decide +kernel
theorem dX11_unlikeness_29 : decode cX11_unlikeness 29 = .ok (.imul, 1) := by decide +kernel
theorem dX11_unlikeness_30 : decode cX11_unlikeness 30 = .ok (.iload 4, 2) := by decide +kernel
theorem dX11_unlikeness_32 : decode cX11_unlikeness 32 = .ok (.iadd, 1) := by decide +kernel
theorem dX11_unlikeness_33 : decode cX11_unlikeness 33 = .ok (.iaload, 1) := by decide +kernel
theorem dX11_unlikeness_34 : decode cX11_unlikeness 34 = .ok (.aload_n 0, 1) := by decide +kernel
theorem dX11_unlikeness_35 : decode cX11_unlikeness 35 = .ok (.getfield 68, 3) := by decide +kernel
theorem dX11_unlikeness_38 : decode cX11_unlikeness 38 = .ok (.getfield 165, 3) := by decide +kernel
theorem dX11_unlikeness_41 : decode cX11_unlikeness 41 = .ok (.iload_n 2, 1) := by decide +kernel
theorem dX11_unlikeness_42 : decode cX11_unlikeness 42 = .ok (.iconst 4, 1) := by decide +kernel
theorem dX11_unlikeness_43 : decode cX11_unlikeness 43 = .ok (.imul, 1) := by decide +kernel
theorem dX11_unlikeness_44 : decode cX11_unlikeness 44 = .ok (.iload 4, 2) := by decide +kernel
theorem dX11_unlikeness_46 : decode cX11_unlikeness 46 = .ok (.iadd, 1) := by decide +kernel
theorem dX11_unlikeness_47 : decode cX11_unlikeness 47 = .ok (.iaload, 1) := by decide +kernel
theorem dX11_unlikeness_48 : decode cX11_unlikeness 48 = .ok (.isub, 1) := by decide +kernel
theorem dX11_unlikeness_49 : decode cX11_unlikeness 49 = .ok (.invokestatic 212, 3) := by decide +kernel
theorem dX11_unlikeness_52 : decode cX11_unlikeness 52 = .ok (.iadd, 1) := by decide +kernel
theorem dX11_unlikeness_53 : decode cX11_unlikeness 53 = .ok (.istore_n 3, 1) := by decide +kernel
theorem dX11_unlikeness_54 : decode cX11_unlikeness 54 = .ok (.iinc 4 1, 3) := by decide +kernel
theorem dX11_unlikeness_57 : decode cX11_unlikeness 57 = .ok (.goto (-52), 3) := by decide +kernel
theorem dX11_unlikeness_60 : decode cX11_unlikeness 60 = .ok (.iload_n 3, 1) := by decide +kernel
theorem dX11_unlikeness_61 : decode cX11_unlikeness 61 = .ok (.ireturn, 1) := by decide +kernel
theorem dX11_followWhim_0 : decode cX11_followWhim 0 = .ok (.aload_n 0, 1) := by decide +kernel
theorem dX11_followWhim_1 : decode cX11_followWhim 1 = .ok (.getfield 51, 3) := by decide +kernel
theorem dX11_followWhim_4 : decode cX11_followWhim 4 = .ok (.getfield 138, 3) := by decide +kernel
theorem dX11_followWhim_7 : decode cX11_followWhim 7 = .ok (.iconst 1, 1) := by decide +kernel
theorem dX11_followWhim_8 : decode cX11_followWhim 8 = .ok (.iaload, 1) := by decide +kernel
theorem dX11_followWhim_9 : decode cX11_followWhim 9 = .ok (.istore_n 1, 1) := by decide +kernel
theorem dX11_followWhim_10 : decode cX11_followWhim 10 = .ok (.aload_n 0, 1) := by decide +kernel
theorem dX11_followWhim_11 : decode cX11_followWhim 11 = .ok (.getfield 51, 3) := by decide +kernel
theorem dX11_followWhim_14 : decode cX11_followWhim 14 = .ok (.getfield 138, 3) := by decide +kernel
theorem dX11_followWhim_17 : decode cX11_followWhim 17 = .ok (.iconst 0, 1) := by decide +kernel
theorem dX11_followWhim_18 : decode cX11_followWhim 18 = .ok (.iaload, 1) := by decide +kernel
theorem dX11_followWhim_19 : decode cX11_followWhim 19 = .ok (.istore_n 2, 1) := by decide +kernel
theorem dX11_followWhim_20 : decode cX11_followWhim 20 = .ok (.iload_n 1, 1) := by decide +kernel
theorem dX11_followWhim_21 : decode cX11_followWhim 21 = .ok (.ifCond .eq 7, 3) := by decide +kernel
theorem dX11_followWhim_24 : decode cX11_followWhim 24 = .ok (.iload_n 2, 1) := by decide +kernel
theorem dX11_followWhim_25 : decode cX11_followWhim 25 = .ok (.ifCond .ne 4, 3) := by decide +kernel
theorem dX11_followWhim_28 : decode cX11_followWhim 28 = .ok (.return_, 1) := by decide +kernel
theorem dX11_followWhim_29 : decode cX11_followWhim 29 = .ok (.aload_n 0, 1) := by decide +kernel
theorem dX11_followWhim_30 : decode cX11_followWhim 30 = .ok (.iload_n 1, 1) := by decide +kernel
theorem dX11_followWhim_31 : decode cX11_followWhim 31 = .ok (.invokevirtual 298, 3) := by decide +kernel
theorem dX11_followWhim_34 : decode cX11_followWhim 34 = .ok (.istore_n 3, 1) := by decide +kernel
theorem dX11_followWhim_35 : decode cX11_followWhim 35 = .ok (.aload_n 0, 1) := by decide +kernel
theorem dX11_followWhim_36 : decode cX11_followWhim 36 = .ok (.iload_n 2, 1) := by decide +kernel
theorem dX11_followWhim_37 : decode cX11_followWhim 37 = .ok (.invokevirtual 298, 3) := by decide +kernel
theorem dX11_followWhim_40 : decode cX11_followWhim 40 = .ok (.istore 4, 2) := by decide +kernel
theorem dX11_followWhim_42 : decode cX11_followWhim 42 = .ok (.aload_n 0, 1) := by decide +kernel
theorem dX11_followWhim_43 : decode cX11_followWhim 43 = .ok (.iconst 3, 1) := by decide +kernel
theorem dX11_followWhim_44 : decode cX11_followWhim 44 = .ok (.invokevirtual 298, 3) := by decide +kernel
theorem dX11_followWhim_47 : decode cX11_followWhim 47 = .ok (.iconst 1, 1) := by decide +kernel
theorem dX11_followWhim_48 : decode cX11_followWhim 48 = .ok (.isub, 1) := by decide +kernel
theorem dX11_followWhim_49 : decode cX11_followWhim 49 = .ok (.istore 5, 2) := by decide +kernel
theorem dX11_followWhim_51 : decode cX11_followWhim 51 = .ok (.iload_n 3, 1) := by decide +kernel
theorem dX11_followWhim_52 : decode cX11_followWhim 52 = .ok (.iconst 4, 1) := by decide +kernel
theorem dX11_followWhim_53 : decode cX11_followWhim 53 = .ok (.imul, 1) := by decide +kernel
theorem dX11_followWhim_54 : decode cX11_followWhim 54 = .ok (.iload 4, 2) := by decide +kernel
theorem dX11_followWhim_56 : decode cX11_followWhim 56 = .ok (.iadd, 1) := by decide +kernel
theorem dX11_followWhim_57 : decode cX11_followWhim 57 = .ok (.istore 6, 2) := by decide +kernel
theorem dX11_followWhim_59 : decode cX11_followWhim 59 = .ok (.aload_n 0, 1) := by decide +kernel
theorem dX11_followWhim_60 : decode cX11_followWhim 60 = .ok (.getfield 68, 3) := by decide +kernel
theorem dX11_followWhim_63 : decode cX11_followWhim 63 = .ok (.getfield 162, 3) := by decide +kernel
theorem dX11_followWhim_66 : decode cX11_followWhim 66 = .ok (.iload 6, 2) := by decide +kernel
theorem dX11_followWhim_68 : decode cX11_followWhim 68 = .ok (.aload_n 0, 1) := by decide +kernel
theorem dX11_followWhim_69 : decode cX11_followWhim 69 = .ok (.getfield 68, 3) := by decide +kernel
theorem dX11_followWhim_72 : decode cX11_followWhim 72 = .ok (.getfield 162, 3) := by decide +kernel
theorem dX11_followWhim_75 : decode cX11_followWhim 75 = .ok (.iload 6, 2) := by decide +kernel
theorem dX11_followWhim_77 : decode cX11_followWhim 77 = .ok (.iaload, 1) := by decide +kernel
theorem dX11_followWhim_78 : decode cX11_followWhim 78 = .ok (.iload 5, 2) := by decide +kernel
theorem dX11_followWhim_80 : decode cX11_followWhim 80 = .ok (.aload_n 0, 1) := by decide +kernel
theorem dX11_followWhim_81 : decode cX11_followWhim 81 = .ok (.getfield 51, 3) := by decide +kernel
theorem dX11_followWhim_84 : decode cX11_followWhim 84 = .ok (.getfield 301, 3) := by decide +kernel
theorem dX11_followWhim_87 : decode cX11_followWhim 87 = .ok (.imul, 1) := by decide +kernel
theorem dX11_followWhim_88 : decode cX11_followWhim 88 = .ok (.iadd, 1) := by decide +kernel
theorem dX11_followWhim_89 : decode cX11_followWhim 89 = .ok (.invokestatic 304, 3) := by decide +kernel
theorem dX11_followWhim_92 : decode cX11_followWhim 92 = .ok (.iastore, 1) := by decide +kernel
theorem dX11_followWhim_93 : decode cX11_followWhim 93 = .ok (.return_, 1) := by decide +kernel
theorem dX11_draw_0 : decode cX11_draw 0 = .ok (.aload_n 0, 1) := by decide +kernel
theorem dX11_draw_1 : decode cX11_draw 1 = .ok (.ldc2_w 307, 3) := by decide +kernel
theorem dX11_draw_4 : decode cX11_draw 4 = .ok (.aload_n 0, 1) := by decide +kernel
theorem dX11_draw_5 : decode cX11_draw 5 = .ok (.getfield 100, 3) := by decide +kernel
theorem dX11_draw_8 : decode cX11_draw 8 = .ok (.lmul, 1) := by decide +kernel
theorem dX11_draw_9 : decode cX11_draw 9 = .ok (.ldc2_w 309, 3) := by decide +kernel
theorem dX11_draw_12 : decode cX11_draw 12 = .ok (.ladd, 1) := by decide +kernel
theorem dX11_draw_13 : decode cX11_draw 13 = .ok (.ldc2_w 311, 3) := by decide +kernel
theorem dX11_draw_16 : decode cX11_draw 16 = .ok (.land, 1) := by decide +kernel
theorem dX11_draw_17 : decode cX11_draw 17 = .ok (.putfield 100, 3) := by decide +kernel
theorem dX11_draw_20 : decode cX11_draw 20 = .ok (.iload_n 1, 1) := by decide +kernel
theorem dX11_draw_21 : decode cX11_draw 21 = .ok (.ifCond .le 18, 3) := by decide +kernel
theorem dX11_draw_24 : decode cX11_draw 24 = .ok (.aload_n 0, 1) := by decide +kernel
theorem dX11_draw_25 : decode cX11_draw 25 = .ok (.getfield 100, 3) := by decide +kernel
theorem dX11_draw_28 : decode cX11_draw 28 = .ok (.ldc2_w 313, 3) := by decide +kernel
theorem dX11_draw_31 : decode cX11_draw 31 = .ok (.ldiv, 1) := by decide +kernel
theorem dX11_draw_32 : decode cX11_draw 32 = .ok (.iload_n 1, 1) := by decide +kernel
theorem dX11_draw_33 : decode cX11_draw 33 = .ok (.i2l, 1) := by decide +kernel
theorem dX11_draw_34 : decode cX11_draw 34 = .ok (.lrem, 1) := by decide +kernel
theorem dX11_draw_35 : decode cX11_draw 35 = .ok (.l2i, 1) := by decide +kernel
theorem dX11_draw_36 : decode cX11_draw 36 = .ok (.goto 4, 3) := by decide +kernel
theorem dX11_draw_39 : decode cX11_draw 39 = .ok (.iconst 0, 1) := by decide +kernel
theorem dX11_draw_40 : decode cX11_draw 40 = .ok (.ireturn, 1) := by decide +kernel
theorem dX11_answer_0 : decode cX11_answer 0 = .ok (.iload_n 1, 1) := by decide +kernel
theorem dX11_answer_1 : decode cX11_answer 1 = .ok (.bipush 31, 2) := by decide +kernel
theorem dX11_answer_3 : decode cX11_answer 3 = .ok (.if_icmp .eq 9, 3) := by decide +kernel
theorem dX11_answer_6 : decode cX11_answer 6 = .ok (.iload_n 1, 1) := by decide +kernel
theorem dX11_answer_7 : decode cX11_answer 7 = .ok (.bipush 32, 2) := by decide +kernel
theorem dX11_answer_9 : decode cX11_answer 9 = .ok (.if_icmp .ne 9, 3) := by decide +kernel
theorem dX11_answer_12 : decode cX11_answer 12 = .ok (.ldc2_w 315, 3) := by decide +kernel
theorem dX11_answer_15 : decode cX11_answer 15 = .ok (.goto 4, 3) := by decide +kernel
theorem dX11_answer_18 : decode cX11_answer 18 = .ok (.lconst 0, 1) := by decide +kernel
theorem dX11_answer_19 : decode cX11_answer 19 = .ok (.lstore_n 3, 1) := by decide +kernel
theorem dX11_answer_20 : decode cX11_answer 20 = .ok (.aload_n 0, 1) := by decide +kernel
theorem dX11_answer_21 : decode cX11_answer 21 = .ok (.getfield 72, 3) := by decide +kernel
theorem dX11_answer_24 : decode cX11_answer 24 = .ok (.aload_n 0, 1) := by decide +kernel
theorem dX11_answer_25 : decode cX11_answer 25 = .ok (.getfield 68, 3) := by decide +kernel
theorem dX11_answer_28 : decode cX11_answer 28 = .ok (.invokevirtual 185, 3) := by decide +kernel
theorem dX11_answer_31 : decode cX11_answer 31 = .ok (.iconst 0, 1) := by decide +kernel
theorem dX11_answer_32 : decode cX11_answer 32 = .ok (.istore 5, 2) := by decide +kernel
theorem dX11_answer_34 : decode cX11_answer 34 = .ok (.iload 5, 2) := by decide +kernel
theorem dX11_answer_36 : decode cX11_answer 36 = .ok (.bipush 73, 2) := by decide +kernel
theorem dX11_answer_38 : decode cX11_answer 38 = .ok (.if_icmp .ge 200, 3) := by decide +kernel
theorem dX11_answer_41 : decode cX11_answer 41 = .ok (.aload_n 0, 1) := by decide +kernel
theorem dX11_answer_42 : decode cX11_answer 42 = .ok (.iload 5, 2) := by decide +kernel
theorem dX11_answer_44 : decode cX11_answer 44 = .ok (.invokevirtual 181, 3) := by decide +kernel
theorem dX11_answer_47 : decode cX11_answer 47 = .ok (.ifCond .eq 191, 3) := by decide +kernel
theorem dX11_answer_50 : decode cX11_answer 50 = .ok (.iload 5, 2) := by decide +kernel
theorem dX11_answer_52 : decode cX11_answer 52 = .ok (.ifCond .le 18, 3) := by decide +kernel
theorem dX11_answer_55 : decode cX11_answer 55 = .ok (.aload_n 0, 1) := by decide +kernel
theorem dX11_answer_56 : decode cX11_answer 56 = .ok (.getfield 61, 3) := by decide +kernel
theorem dX11_answer_59 : decode cX11_answer 59 = .ok (.aload_n 0, 1) := by decide +kernel
theorem dX11_answer_60 : decode cX11_answer 60 = .ok (.getfield 51, 3) := by decide +kernel
theorem dX11_answer_63 : decode cX11_answer 63 = .ok (.aload_n 0, 1) := by decide +kernel
theorem dX11_answer_64 : decode cX11_answer 64 = .ok (.getfield 72, 3) := by decide +kernel
theorem dX11_answer_67 : decode cX11_answer 67 = .ok (.invokevirtual 193, 3) := by decide +kernel
theorem dX11_answer_70 : decode cX11_answer 70 = .ok (.aload_n 0, 1) := by decide +kernel
theorem dX11_answer_71 : decode cX11_answer 71 = .ok (.getfield 61, 3) := by decide +kernel
theorem dX11_answer_74 : decode cX11_answer 74 = .ok (.aload_n 0, 1) := by decide +kernel
theorem dX11_answer_75 : decode cX11_answer 75 = .ok (.getfield 51, 3) := by decide +kernel
theorem dX11_answer_78 : decode cX11_answer 78 = .ok (.aload_n 0, 1) := by decide +kernel
theorem dX11_answer_79 : decode cX11_answer 79 = .ok (.getfield 44, 3) := by decide +kernel
theorem dX11_answer_82 : decode cX11_answer 82 = .ok (.aload_n 0, 1) := by decide +kernel
theorem dX11_answer_83 : decode cX11_answer 83 = .ok (.getfield 72, 3) := by decide +kernel
theorem dX11_answer_86 : decode cX11_answer 86 = .ok (.iload_n 2, 1) := by decide +kernel
theorem dX11_answer_87 : decode cX11_answer 87 = .ok (.invokevirtual 317, 3) := by decide +kernel
theorem dX11_answer_90 : decode cX11_answer 90 = .ok (.istore 6, 2) := by decide +kernel
theorem dX11_answer_92 : decode cX11_answer 92 = .ok (.iload_n 1, 1) := by decide +kernel
theorem dX11_answer_93 : decode cX11_answer 93 = .ok (.tableswitch 133 31 36 #[39, 68, 133, 133, 89, 111], 39) := by decide +kernel
theorem dX11_answer_132 : decode cX11_answer 132 = .ok (.lload_n 3, 1) := by decide +kernel
theorem dX11_answer_133 : decode cX11_answer 133 = .ok (.ldc2_w 315, 3) := by decide +kernel
theorem dX11_answer_136 : decode cX11_answer 136 = .ok (.lcmp, 1) := by decide +kernel
theorem dX11_answer_137 : decode cX11_answer 137 = .ok (.ifCond .ne 19, 3) := by decide +kernel
theorem dX11_answer_140 : decode cX11_answer 140 = .ok (.iload 6, 2) := by decide +kernel
theorem dX11_answer_142 : decode cX11_answer 142 = .ok (.ifCond .eq 14, 3) := by decide +kernel
theorem dX11_answer_145 : decode cX11_answer 145 = .ok (.aload_n 0, 1) := by decide +kernel
theorem dX11_answer_146 : decode cX11_answer 146 = .ok (.getfield 72, 3) := by decide +kernel
theorem dX11_answer_149 : decode cX11_answer 149 = .ok (.getfield 141, 3) := by decide +kernel
theorem dX11_answer_152 : decode cX11_answer 152 = .ok (.i2l, 1) := by decide +kernel
theorem dX11_answer_153 : decode cX11_answer 153 = .ok (.goto 4, 3) := by decide +kernel
theorem dX11_answer_156 : decode cX11_answer 156 = .ok (.lload_n 3, 1) := by decide +kernel
theorem dX11_answer_157 : decode cX11_answer 157 = .ok (.lstore_n 3, 1) := by decide +kernel
theorem dX11_answer_158 : decode cX11_answer 158 = .ok (.goto 74, 3) := by decide +kernel
theorem dX11_answer_161 : decode cX11_answer 161 = .ok (.iload 6, 2) := by decide +kernel
theorem dX11_answer_163 : decode cX11_answer 163 = .ok (.ifCond .eq 14, 3) := by decide +kernel
theorem dX11_answer_166 : decode cX11_answer 166 = .ok (.aload_n 0, 1) := by decide +kernel
theorem dX11_answer_167 : decode cX11_answer 167 = .ok (.getfield 72, 3) := by decide +kernel
theorem dX11_answer_170 : decode cX11_answer 170 = .ok (.getfield 141, 3) := by decide +kernel
theorem dX11_answer_173 : decode cX11_answer 173 = .ok (.i2l, 1) := by decide +kernel
theorem dX11_answer_174 : decode cX11_answer 174 = .ok (.goto 4, 3) := by decide +kernel
theorem dX11_answer_177 : decode cX11_answer 177 = .ok (.lload_n 3, 1) := by decide +kernel
theorem dX11_answer_178 : decode cX11_answer 178 = .ok (.lstore_n 3, 1) := by decide +kernel
theorem dX11_answer_179 : decode cX11_answer 179 = .ok (.goto 53, 3) := by decide +kernel
theorem dX11_answer_182 : decode cX11_answer 182 = .ok (.iload 5, 2) := by decide +kernel
theorem dX11_answer_184 : decode cX11_answer 184 = .ok (.ifCond .ne 9, 3) := by decide +kernel
theorem dX11_answer_187 : decode cX11_answer 187 = .ok (.iload 6, 2) := by decide +kernel
theorem dX11_answer_189 : decode cX11_answer 189 = .ok (.i2l, 1) := by decide +kernel
theorem dX11_answer_190 : decode cX11_answer 190 = .ok (.goto 10, 3) := by decide +kernel
theorem dX11_answer_193 : decode cX11_answer 193 = .ok (.lload_n 3, 1) := by decide +kernel
theorem dX11_answer_194 : decode cX11_answer 194 = .ok (.iload 6, 2) := by decide +kernel
theorem dX11_answer_196 : decode cX11_answer 196 = .ok (.i2l, 1) := by decide +kernel
theorem dX11_answer_197 : decode cX11_answer 197 = .ok (.invokestatic 321, 3) := by decide +kernel
theorem dX11_answer_200 : decode cX11_answer 200 = .ok (.lstore_n 3, 1) := by decide +kernel
theorem dX11_answer_201 : decode cX11_answer 201 = .ok (.goto 31, 3) := by decide +kernel
theorem dX11_answer_204 : decode cX11_answer 204 = .ok (.iload 5, 2) := by decide +kernel
theorem dX11_answer_206 : decode cX11_answer 206 = .ok (.ifCond .ne 9, 3) := by decide +kernel
theorem dX11_answer_209 : decode cX11_answer 209 = .ok (.iload 6, 2) := by decide +kernel
theorem dX11_answer_211 : decode cX11_answer 211 = .ok (.i2l, 1) := by decide +kernel
theorem dX11_answer_212 : decode cX11_answer 212 = .ok (.goto 10, 3) := by decide +kernel
theorem dX11_answer_215 : decode cX11_answer 215 = .ok (.lload_n 3, 1) := by decide +kernel
theorem dX11_answer_216 : decode cX11_answer 216 = .ok (.iload 6, 2) := by decide +kernel
theorem dX11_answer_218 : decode cX11_answer 218 = .ok (.i2l, 1) := by decide +kernel
theorem dX11_answer_219 : decode cX11_answer 219 = .ok (.invokestatic 324, 3) := by decide +kernel
theorem dX11_answer_222 : decode cX11_answer 222 = .ok (.lstore_n 3, 1) := by decide +kernel
theorem dX11_answer_223 : decode cX11_answer 223 = .ok (.goto 9, 3) := by decide +kernel
theorem dX11_answer_226 : decode cX11_answer 226 = .ok (.lload_n 3, 1) := by decide +kernel
theorem dX11_answer_227 : decode cX11_answer 227 = .ok (.iload 6, 2) := by decide +kernel
theorem dX11_answer_229 : decode cX11_answer 229 = .ok (.i2l, 1) := by decide +kernel
theorem dX11_answer_230 : decode cX11_answer 230 = .ok (.ladd, 1) := by decide +kernel
theorem dX11_answer_231 : decode cX11_answer 231 = .ok (.lstore_n 3, 1) := by decide +kernel
theorem dX11_answer_232 : decode cX11_answer 232 = .ok (.iinc 5 1, 3) := by decide +kernel
theorem dX11_answer_235 : decode cX11_answer 235 = .ok (.goto (-201), 3) := by decide +kernel
theorem dX11_answer_238 : decode cX11_answer 238 = .ok (.lload_n 3, 1) := by decide +kernel
theorem dX11_answer_239 : decode cX11_answer 239 = .ok (.lreturn, 1) := by decide +kernel
theorem dJ6_bitCount_0f7a4_0 : decode cJ6_bitCount_0f7a4 0 = .ok (.iload_n 0, 1) := by decide +kernel
theorem dJ6_bitCount_0f7a4_1 : decode cJ6_bitCount_0f7a4 1 = .ok (.iload_n 0, 1) := by decide +kernel
theorem dJ6_bitCount_0f7a4_2 : decode cJ6_bitCount_0f7a4 2 = .ok (.iconst 1, 1) := by decide +kernel
theorem dJ6_bitCount_0f7a4_3 : decode cJ6_bitCount_0f7a4 3 = .ok (.iushr, 1) := by decide +kernel
theorem dJ6_bitCount_0f7a4_4 : decode cJ6_bitCount_0f7a4 4 = .ok (.ldc_w 265, 3) := by decide +kernel
theorem dJ6_bitCount_0f7a4_7 : decode cJ6_bitCount_0f7a4 7 = .ok (.iand, 1) := by decide +kernel
theorem dJ6_bitCount_0f7a4_8 : decode cJ6_bitCount_0f7a4 8 = .ok (.isub, 1) := by decide +kernel
theorem dJ6_bitCount_0f7a4_9 : decode cJ6_bitCount_0f7a4 9 = .ok (.istore_n 0, 1) := by decide +kernel
theorem dJ6_bitCount_0f7a4_10 : decode cJ6_bitCount_0f7a4 10 = .ok (.iload_n 0, 1) := by decide +kernel
theorem dJ6_bitCount_0f7a4_11 : decode cJ6_bitCount_0f7a4 11 = .ok (.ldc_w 266, 3) := by decide +kernel
theorem dJ6_bitCount_0f7a4_14 : decode cJ6_bitCount_0f7a4 14 = .ok (.iand, 1) := by decide +kernel
theorem dJ6_bitCount_0f7a4_15 : decode cJ6_bitCount_0f7a4 15 = .ok (.iload_n 0, 1) := by decide +kernel
theorem dJ6_bitCount_0f7a4_16 : decode cJ6_bitCount_0f7a4 16 = .ok (.iconst 2, 1) := by decide +kernel
theorem dJ6_bitCount_0f7a4_17 : decode cJ6_bitCount_0f7a4 17 = .ok (.iushr, 1) := by decide +kernel
theorem dJ6_bitCount_0f7a4_18 : decode cJ6_bitCount_0f7a4 18 = .ok (.ldc_w 266, 3) := by decide +kernel
theorem dJ6_bitCount_0f7a4_21 : decode cJ6_bitCount_0f7a4 21 = .ok (.iand, 1) := by decide +kernel
theorem dJ6_bitCount_0f7a4_22 : decode cJ6_bitCount_0f7a4 22 = .ok (.iadd, 1) := by decide +kernel
theorem dJ6_bitCount_0f7a4_23 : decode cJ6_bitCount_0f7a4 23 = .ok (.istore_n 0, 1) := by decide +kernel
theorem dJ6_bitCount_0f7a4_24 : decode cJ6_bitCount_0f7a4 24 = .ok (.iload_n 0, 1) := by decide +kernel
theorem dJ6_bitCount_0f7a4_25 : decode cJ6_bitCount_0f7a4 25 = .ok (.iload_n 0, 1) := by decide +kernel
theorem dJ6_bitCount_0f7a4_26 : decode cJ6_bitCount_0f7a4 26 = .ok (.iconst 4, 1) := by decide +kernel
theorem dJ6_bitCount_0f7a4_27 : decode cJ6_bitCount_0f7a4 27 = .ok (.iushr, 1) := by decide +kernel
theorem dJ6_bitCount_0f7a4_28 : decode cJ6_bitCount_0f7a4 28 = .ok (.iadd, 1) := by decide +kernel
theorem dJ6_bitCount_0f7a4_29 : decode cJ6_bitCount_0f7a4 29 = .ok (.ldc_w 267, 3) := by decide +kernel
theorem dJ6_bitCount_0f7a4_32 : decode cJ6_bitCount_0f7a4 32 = .ok (.iand, 1) := by decide +kernel
theorem dJ6_bitCount_0f7a4_33 : decode cJ6_bitCount_0f7a4 33 = .ok (.istore_n 0, 1) := by decide +kernel
theorem dJ6_bitCount_0f7a4_34 : decode cJ6_bitCount_0f7a4 34 = .ok (.iload_n 0, 1) := by decide +kernel
theorem dJ6_bitCount_0f7a4_35 : decode cJ6_bitCount_0f7a4 35 = .ok (.iload_n 0, 1) := by decide +kernel
theorem dJ6_bitCount_0f7a4_36 : decode cJ6_bitCount_0f7a4 36 = .ok (.bipush 8, 2) := by decide +kernel
theorem dJ6_bitCount_0f7a4_38 : decode cJ6_bitCount_0f7a4 38 = .ok (.iushr, 1) := by decide +kernel
theorem dJ6_bitCount_0f7a4_39 : decode cJ6_bitCount_0f7a4 39 = .ok (.iadd, 1) := by decide +kernel
theorem dJ6_bitCount_0f7a4_40 : decode cJ6_bitCount_0f7a4 40 = .ok (.istore_n 0, 1) := by decide +kernel
theorem dJ6_bitCount_0f7a4_41 : decode cJ6_bitCount_0f7a4 41 = .ok (.iload_n 0, 1) := by decide +kernel
theorem dJ6_bitCount_0f7a4_42 : decode cJ6_bitCount_0f7a4 42 = .ok (.iload_n 0, 1) := by decide +kernel
theorem dJ6_bitCount_0f7a4_43 : decode cJ6_bitCount_0f7a4 43 = .ok (.bipush 16, 2) := by decide +kernel
theorem dJ6_bitCount_0f7a4_45 : decode cJ6_bitCount_0f7a4 45 = .ok (.iushr, 1) := by decide +kernel
theorem dJ6_bitCount_0f7a4_46 : decode cJ6_bitCount_0f7a4 46 = .ok (.iadd, 1) := by decide +kernel
theorem dJ6_bitCount_0f7a4_47 : decode cJ6_bitCount_0f7a4 47 = .ok (.istore_n 0, 1) := by decide +kernel
theorem dJ6_bitCount_0f7a4_48 : decode cJ6_bitCount_0f7a4 48 = .ok (.iload_n 0, 1) := by decide +kernel
theorem dJ6_bitCount_0f7a4_49 : decode cJ6_bitCount_0f7a4 49 = .ok (.bipush 63, 2) := by decide +kernel
theorem dJ6_bitCount_0f7a4_51 : decode cJ6_bitCount_0f7a4 51 = .ok (.iand, 1) := by decide +kernel
theorem dJ6_bitCount_0f7a4_52 : decode cJ6_bitCount_0f7a4 52 = .ok (.ireturn, 1) := by decide +kernel
theorem dJ9_floorDiv_7cf53_0 : decode cJ9_floorDiv_7cf53 0 = .ok (.iload_n 0, 1) := by decide +kernel
theorem dJ9_floorDiv_7cf53_1 : decode cJ9_floorDiv_7cf53 1 = .ok (.iload_n 1, 1) := by decide +kernel
theorem dJ9_floorDiv_7cf53_2 : decode cJ9_floorDiv_7cf53 2 = .ok (.idiv, 1) := by decide +kernel
theorem dJ9_floorDiv_7cf53_3 : decode cJ9_floorDiv_7cf53 3 = .ok (.istore_n 2, 1) := by decide +kernel
theorem dJ9_floorDiv_7cf53_4 : decode cJ9_floorDiv_7cf53 4 = .ok (.iload_n 0, 1) := by decide +kernel
theorem dJ9_floorDiv_7cf53_5 : decode cJ9_floorDiv_7cf53 5 = .ok (.iload_n 1, 1) := by decide +kernel
theorem dJ9_floorDiv_7cf53_6 : decode cJ9_floorDiv_7cf53 6 = .ok (.ixor, 1) := by decide +kernel
theorem dJ9_floorDiv_7cf53_7 : decode cJ9_floorDiv_7cf53 7 = .ok (.ifCond .ge 14, 3) := by decide +kernel
theorem dJ9_floorDiv_7cf53_10 : decode cJ9_floorDiv_7cf53 10 = .ok (.iload_n 2, 1) := by decide +kernel
theorem dJ9_floorDiv_7cf53_11 : decode cJ9_floorDiv_7cf53 11 = .ok (.iload_n 1, 1) := by decide +kernel
theorem dJ9_floorDiv_7cf53_12 : decode cJ9_floorDiv_7cf53 12 = .ok (.imul, 1) := by decide +kernel
theorem dJ9_floorDiv_7cf53_13 : decode cJ9_floorDiv_7cf53 13 = .ok (.iload_n 0, 1) := by decide +kernel
theorem dJ9_floorDiv_7cf53_14 : decode cJ9_floorDiv_7cf53 14 = .ok (.if_icmp .eq 7, 3) := by decide +kernel
theorem dJ9_floorDiv_7cf53_17 : decode cJ9_floorDiv_7cf53 17 = .ok (.iload_n 2, 1) := by decide +kernel
theorem dJ9_floorDiv_7cf53_18 : decode cJ9_floorDiv_7cf53 18 = .ok (.iconst 1, 1) := by decide +kernel
theorem dJ9_floorDiv_7cf53_19 : decode cJ9_floorDiv_7cf53 19 = .ok (.isub, 1) := by decide +kernel
theorem dJ9_floorDiv_7cf53_20 : decode cJ9_floorDiv_7cf53 20 = .ok (.ireturn, 1) := by decide +kernel
theorem dJ9_floorDiv_7cf53_21 : decode cJ9_floorDiv_7cf53 21 = .ok (.iload_n 2, 1) := by decide +kernel
theorem dJ9_floorDiv_7cf53_22 : decode cJ9_floorDiv_7cf53 22 = .ok (.ireturn, 1) := by decide +kernel
theorem dJ9_abs_0f7a4_0 : decode cJ9_abs_0f7a4 0 = .ok (.iload_n 0, 1) := by decide +kernel
theorem dJ9_abs_0f7a4_1 : decode cJ9_abs_0f7a4 1 = .ok (.ifCond .ge 8, 3) := by decide +kernel
theorem dJ9_abs_0f7a4_4 : decode cJ9_abs_0f7a4 4 = .ok (.iload_n 0, 1) := by decide +kernel
theorem dJ9_abs_0f7a4_5 : decode cJ9_abs_0f7a4 5 = .ok (.ineg, 1) := by decide +kernel
theorem dJ9_abs_0f7a4_6 : decode cJ9_abs_0f7a4 6 = .ok (.goto 4, 3) := by decide +kernel
theorem dJ9_abs_0f7a4_9 : decode cJ9_abs_0f7a4 9 = .ok (.iload_n 0, 1) := by decide +kernel
theorem dJ9_abs_0f7a4_10 : decode cJ9_abs_0f7a4 10 = .ok (.ireturn, 1) := by decide +kernel
theorem dJ9_max_7cf53_0 : decode cJ9_max_7cf53 0 = .ok (.iload_n 0, 1) := by decide +kernel
theorem dJ9_max_7cf53_1 : decode cJ9_max_7cf53 1 = .ok (.iload_n 1, 1) := by decide +kernel
theorem dJ9_max_7cf53_2 : decode cJ9_max_7cf53 2 = .ok (.if_icmp .lt 7, 3) := by decide +kernel
theorem dJ9_max_7cf53_5 : decode cJ9_max_7cf53 5 = .ok (.iload_n 0, 1) := by decide +kernel
theorem dJ9_max_7cf53_6 : decode cJ9_max_7cf53 6 = .ok (.goto 4, 3) := by decide +kernel
theorem dJ9_max_7cf53_9 : decode cJ9_max_7cf53 9 = .ok (.iload_n 1, 1) := by decide +kernel
theorem dJ9_max_7cf53_10 : decode cJ9_max_7cf53 10 = .ok (.ireturn, 1) := by decide +kernel
theorem dJ9_max_f86c9_0 : decode cJ9_max_f86c9 0 = .ok (.lload_n 0, 1) := by decide +kernel
theorem dJ9_max_f86c9_1 : decode cJ9_max_f86c9 1 = .ok (.lload_n 2, 1) := by decide +kernel
theorem dJ9_max_f86c9_2 : decode cJ9_max_f86c9 2 = .ok (.lcmp, 1) := by decide +kernel
theorem dJ9_max_f86c9_3 : decode cJ9_max_f86c9 3 = .ok (.ifCond .lt 7, 3) := by decide +kernel
theorem dJ9_max_f86c9_6 : decode cJ9_max_f86c9 6 = .ok (.lload_n 0, 1) := by decide +kernel
theorem dJ9_max_f86c9_7 : decode cJ9_max_f86c9 7 = .ok (.goto 4, 3) := by decide +kernel
theorem dJ9_max_f86c9_10 : decode cJ9_max_f86c9 10 = .ok (.lload_n 2, 1) := by decide +kernel
theorem dJ9_max_f86c9_11 : decode cJ9_max_f86c9 11 = .ok (.lreturn, 1) := by decide +kernel
theorem dJ9_min_7cf53_0 : decode cJ9_min_7cf53 0 = .ok (.iload_n 0, 1) := by decide +kernel
theorem dJ9_min_7cf53_1 : decode cJ9_min_7cf53 1 = .ok (.iload_n 1, 1) := by decide +kernel
theorem dJ9_min_7cf53_2 : decode cJ9_min_7cf53 2 = .ok (.if_icmp .gt 7, 3) := by decide +kernel
theorem dJ9_min_7cf53_5 : decode cJ9_min_7cf53 5 = .ok (.iload_n 0, 1) := by decide +kernel
theorem dJ9_min_7cf53_6 : decode cJ9_min_7cf53 6 = .ok (.goto 4, 3) := by decide +kernel
theorem dJ9_min_7cf53_9 : decode cJ9_min_7cf53 9 = .ok (.iload_n 1, 1) := by decide +kernel
theorem dJ9_min_7cf53_10 : decode cJ9_min_7cf53 10 = .ok (.ireturn, 1) := by decide +kernel
theorem dJ9_min_f86c9_0 : decode cJ9_min_f86c9 0 = .ok (.lload_n 0, 1) := by decide +kernel
theorem dJ9_min_f86c9_1 : decode cJ9_min_f86c9 1 = .ok (.lload_n 2, 1) := by decide +kernel
theorem dJ9_min_f86c9_2 : decode cJ9_min_f86c9 2 = .ok (.lcmp, 1) := by decide +kernel
theorem dJ9_min_f86c9_3 : decode cJ9_min_f86c9 3 = .ok (.ifCond .gt 7, 3) := by decide +kernel
theorem dJ9_min_f86c9_6 : decode cJ9_min_f86c9 6 = .ok (.lload_n 0, 1) := by decide +kernel
theorem dJ9_min_f86c9_7 : decode cJ9_min_f86c9 7 = .ok (.goto 4, 3) := by decide +kernel
theorem dJ9_min_f86c9_10 : decode cJ9_min_f86c9 10 = .ok (.lload_n 2, 1) := by decide +kernel
theorem dJ9_min_f86c9_11 : decode cJ9_min_f86c9 11 = .ok (.lreturn, 1) := by decide +kernel
theorem dJ0_length_8abf5_0 : decode cJ0_length_8abf5 0 = .ok (.aload_n 0, 1) := by decide +kernel
theorem dJ0_length_8abf5_1 : decode cJ0_length_8abf5 1 = .ok (.getfield 9, 3) := by decide +kernel
theorem dJ0_length_8abf5_4 : decode cJ0_length_8abf5 4 = .ok (.arraylength, 1) := by decide +kernel
theorem dJ0_length_8abf5_5 : decode cJ0_length_8abf5 5 = .ok (.aload_n 0, 1) := by decide +kernel
theorem dJ0_length_8abf5_6 : decode cJ0_length_8abf5 6 = .ok (.invokevirtual 335, 3) := by decide +kernel
theorem dJ0_length_8abf5_9 : decode cJ0_length_8abf5 9 = .ok (.ishr, 1) := by decide +kernel
theorem dJ0_length_8abf5_10 : decode cJ0_length_8abf5 10 = .ok (.ireturn, 1) := by decide +kernel
theorem dJ0_charAt_5068e_0 : decode cJ0_charAt_5068e 0 = .ok (.aload_n 0, 1) := by decide +kernel
theorem dJ0_charAt_5068e_1 : decode cJ0_charAt_5068e 1 = .ok (.invokevirtual 492, 3) := by decide +kernel
theorem dJ0_charAt_5068e_4 : decode cJ0_charAt_5068e 4 = .ok (.ifCond .eq 12, 3) := by decide +kernel
theorem dJ0_charAt_5068e_7 : decode cJ0_charAt_5068e 7 = .ok (.aload_n 0, 1) := by decide +kernel
theorem dJ0_charAt_5068e_8 : decode cJ0_charAt_5068e 8 = .ok (.getfield 9, 3) := by decide +kernel
theorem dJ0_charAt_5068e_11 : decode cJ0_charAt_5068e 11 = .ok (.iload_n 1, 1) := by decide +kernel
theorem dJ0_charAt_5068e_12 : decode cJ0_charAt_5068e 12 = .ok (.invokestatic 495, 3) := by decide +kernel
theorem dJ0_charAt_5068e_15 : decode cJ0_charAt_5068e 15 = .ok (.ireturn, 1) := by decide +kernel
theorem dJ0_charAt_5068e_16 : decode cJ0_charAt_5068e 16 = .ok (.aload_n 0, 1) := by decide +kernel
theorem dJ0_charAt_5068e_17 : decode cJ0_charAt_5068e 17 = .ok (.getfield 9, 3) := by decide +kernel
theorem dJ0_charAt_5068e_20 : decode cJ0_charAt_5068e 20 = .ok (.iload_n 1, 1) := by decide +kernel
theorem dJ0_charAt_5068e_21 : decode cJ0_charAt_5068e 21 = .ok (.invokestatic 498, 3) := by decide +kernel
theorem dJ0_charAt_5068e_24 : decode cJ0_charAt_5068e 24 = .ok (.ireturn, 1) := by decide +kernel
theorem dJ0_coder_7d493_0 : decode cJ0_coder_7d493 0 = .ok (.getstatic 38, 3) := by decide +kernel
theorem dJ0_coder_7d493_3 : decode cJ0_coder_7d493 3 = .ok (.ifCond .eq 10, 3) := by decide +kernel
theorem dJ0_coder_7d493_6 : decode cJ0_coder_7d493 6 = .ok (.aload_n 0, 1) := by decide +kernel
theorem dJ0_coder_7d493_7 : decode cJ0_coder_7d493 7 = .ok (.getfield 15, 3) := by decide +kernel
theorem dJ0_coder_7d493_10 : decode cJ0_coder_7d493 10 = .ok (.goto 4, 3) := by decide +kernel
theorem dJ0_coder_7d493_13 : decode cJ0_coder_7d493 13 = .ok (.iconst 1, 1) := by decide +kernel
theorem dJ0_coder_7d493_14 : decode cJ0_coder_7d493 14 = .ok (.ireturn, 1) := by decide +kernel
theorem dJ0_isLatin1_aae02_0 : decode cJ0_isLatin1_aae02 0 = .ok (.getstatic 38, 3) := by decide +kernel
theorem dJ0_isLatin1_aae02_3 : decode cJ0_isLatin1_aae02 3 = .ok (.ifCond .eq 14, 3) := by decide +kernel
theorem dJ0_isLatin1_aae02_6 : decode cJ0_isLatin1_aae02 6 = .ok (.aload_n 0, 1) := by decide +kernel
theorem dJ0_isLatin1_aae02_7 : decode cJ0_isLatin1_aae02 7 = .ok (.getfield 15, 3) := by decide +kernel
theorem dJ0_isLatin1_aae02_10 : decode cJ0_isLatin1_aae02 10 = .ok (.ifCond .ne 7, 3) := by decide +kernel
theorem dJ0_isLatin1_aae02_13 : decode cJ0_isLatin1_aae02 13 = .ok (.iconst 1, 1) := by decide +kernel
theorem dJ0_isLatin1_aae02_14 : decode cJ0_isLatin1_aae02 14 = .ok (.goto 4, 3) := by decide +kernel
theorem dJ0_isLatin1_aae02_17 : decode cJ0_isLatin1_aae02 17 = .ok (.iconst 0, 1) := by decide +kernel
theorem dJ0_isLatin1_aae02_18 : decode cJ0_isLatin1_aae02 18 = .ok (.ireturn, 1) := by decide +kernel
theorem dJ0_checkIndex_df160_0 : decode cJ0_checkIndex_df160 0 = .ok (.iload_n 0, 1) := by decide +kernel
theorem dJ0_checkIndex_df160_1 : decode cJ0_checkIndex_df160 1 = .ok (.iload_n 1, 1) := by decide +kernel
theorem dJ0_checkIndex_df160_2 : decode cJ0_checkIndex_df160 2 = .ok (.getstatic 1053, 3) := by decide +kernel
theorem dJ0_checkIndex_df160_5 : decode cJ0_checkIndex_df160 5 = .ok (.invokestatic 1059, 3) := by decide +kernel
theorem dJ0_checkIndex_df160_8 : decode cJ0_checkIndex_df160 8 = .ok (.pop, 1) := by decide +kernel
theorem dJ0_checkIndex_df160_9 : decode cJ0_checkIndex_df160 9 = .ok (.return_, 1) := by decide +kernel
theorem dJ1_charAt_3b067_0 : decode cJ1_charAt_3b067 0 = .ok (.iload_n 1, 1) := by decide +kernel
theorem dJ1_charAt_3b067_1 : decode cJ1_charAt_3b067 1 = .ok (.aload_n 0, 1) := by decide +kernel
theorem dJ1_charAt_3b067_2 : decode cJ1_charAt_3b067 2 = .ok (.arraylength, 1) := by decide +kernel
theorem dJ1_charAt_3b067_3 : decode cJ1_charAt_3b067 3 = .ok (.invokestatic 9, 3) := by decide +kernel
theorem dJ1_charAt_3b067_6 : decode cJ1_charAt_3b067 6 = .ok (.aload_n 0, 1) := by decide +kernel
theorem dJ1_charAt_3b067_7 : decode cJ1_charAt_3b067 7 = .ok (.iload_n 1, 1) := by decide +kernel
theorem dJ1_charAt_3b067_8 : decode cJ1_charAt_3b067 8 = .ok (.baload, 1) := by decide +kernel
theorem dJ1_charAt_3b067_9 : decode cJ1_charAt_3b067 9 = .ok (.sipush 255, 3) := by decide +kernel
theorem dJ1_charAt_3b067_12 : decode cJ1_charAt_3b067 12 = .ok (.iand, 1) := by decide +kernel
theorem dJ1_charAt_3b067_13 : decode cJ1_charAt_3b067 13 = .ok (.i2c, 1) := by decide +kernel
theorem dJ1_charAt_3b067_14 : decode cJ1_charAt_3b067 14 = .ok (.ireturn, 1) := by decide +kernel
theorem dJ2_getChar_3b067_0 : decode cJ2_getChar_3b067 0 = .ok (.getstatic 44, 3) := by decide +kernel
theorem dJ2_getChar_3b067_3 : decode cJ2_getChar_3b067 3 = .ok (.ifCond .ne 25, 3) := by decide +kernel
theorem dJ2_getChar_3b067_6 : decode cJ2_getChar_3b067 6 = .ok (.iload_n 1, 1) := by decide +kernel
theorem dJ2_getChar_3b067_7 : decode cJ2_getChar_3b067 7 = .ok (.ifCond .lt 11, 3) := by decide +kernel
theorem dJ2_getChar_3b067_10 : decode cJ2_getChar_3b067 10 = .ok (.iload_n 1, 1) := by decide +kernel
theorem dJ2_getChar_3b067_11 : decode cJ2_getChar_3b067 11 = .ok (.aload_n 0, 1) := by decide +kernel
theorem dJ2_getChar_3b067_12 : decode cJ2_getChar_3b067 12 = .ok (.invokestatic 48, 3) := by decide +kernel
theorem dJ2_getChar_3b067_15 : decode cJ2_getChar_3b067 15 = .ok (.if_icmp .lt 13, 3) := by decide +kernel
theorem dJ2_getChar_3b067_18 : decode cJ2_getChar_3b067 18 = .ok (.new 52, 3) := by decide +kernel
theorem dJ2_getChar_3b067_21 : decode cJ2_getChar_3b067 21 = .ok (.dup, 1) := by decide +kernel
theorem dJ2_getChar_3b067_22 : decode cJ2_getChar_3b067 22 = .ok (.ldc 54, 2) := by decide +kernel
theorem dJ2_getChar_3b067_24 : decode cJ2_getChar_3b067 24 = .ok (.invokespecial 56, 3) := by decide +kernel
theorem dJ2_getChar_3b067_27 : decode cJ2_getChar_3b067 27 = .ok (.athrow, 1) := by decide +kernel
theorem dJ2_getChar_3b067_28 : decode cJ2_getChar_3b067 28 = .ok (.iload_n 1, 1) := by decide +kernel
theorem dJ2_getChar_3b067_29 : decode cJ2_getChar_3b067 29 = .ok (.iconst 1, 1) := by decide +kernel
theorem dJ2_getChar_3b067_30 : decode cJ2_getChar_3b067 30 = .ok (.ishl, 1) := by decide +kernel
theorem dJ2_getChar_3b067_31 : decode cJ2_getChar_3b067 31 = .ok (.istore_n 1, 1) := by decide +kernel
theorem dJ2_getChar_3b067_32 : decode cJ2_getChar_3b067 32 = .ok (.aload_n 0, 1) := by decide +kernel
theorem dJ2_getChar_3b067_33 : decode cJ2_getChar_3b067 33 = .ok (.iload_n 1, 1) := by decide +kernel
theorem dJ2_getChar_3b067_34 : decode cJ2_getChar_3b067 34 = .ok (.iinc 1 1, 3) := by decide +kernel
theorem dJ2_getChar_3b067_37 : decode cJ2_getChar_3b067 37 = .ok (.baload, 1) := by decide +kernel
theorem dJ2_getChar_3b067_38 : decode cJ2_getChar_3b067 38 = .ok (.sipush 255, 3) := by decide +kernel
theorem dJ2_getChar_3b067_41 : decode cJ2_getChar_3b067 41 = .ok (.iand, 1) := by decide +kernel
theorem dJ2_getChar_3b067_42 : decode cJ2_getChar_3b067 42 = .ok (.getstatic 59, 3) := by decide +kernel
theorem dJ2_getChar_3b067_45 : decode cJ2_getChar_3b067 45 = .ok (.ishl, 1) := by decide +kernel
theorem dJ2_getChar_3b067_46 : decode cJ2_getChar_3b067 46 = .ok (.aload_n 0, 1) := by decide +kernel
theorem dJ2_getChar_3b067_47 : decode cJ2_getChar_3b067 47 = .ok (.iload_n 1, 1) := by decide +kernel
theorem dJ2_getChar_3b067_48 : decode cJ2_getChar_3b067 48 = .ok (.baload, 1) := by decide +kernel
theorem dJ2_getChar_3b067_49 : decode cJ2_getChar_3b067 49 = .ok (.sipush 255, 3) := by decide +kernel
theorem dJ2_getChar_3b067_52 : decode cJ2_getChar_3b067 52 = .ok (.iand, 1) := by decide +kernel
theorem dJ2_getChar_3b067_53 : decode cJ2_getChar_3b067 53 = .ok (.getstatic 63, 3) := by decide +kernel
theorem dJ2_getChar_3b067_56 : decode cJ2_getChar_3b067 56 = .ok (.ishl, 1) := by decide +kernel
theorem dJ2_getChar_3b067_57 : decode cJ2_getChar_3b067 57 = .ok (.ior, 1) := by decide +kernel
theorem dJ2_getChar_3b067_58 : decode cJ2_getChar_3b067 58 = .ok (.i2c, 1) := by decide +kernel
theorem dJ2_getChar_3b067_59 : decode cJ2_getChar_3b067 59 = .ok (.ireturn, 1) := by decide +kernel
theorem dJ2_length_9d52b_0 : decode cJ2_length_9d52b 0 = .ok (.aload_n 0, 1) := by decide +kernel
theorem dJ2_length_9d52b_1 : decode cJ2_length_9d52b 1 = .ok (.arraylength, 1) := by decide +kernel
theorem dJ2_length_9d52b_2 : decode cJ2_length_9d52b 2 = .ok (.iconst 1, 1) := by decide +kernel
theorem dJ2_length_9d52b_3 : decode cJ2_length_9d52b 3 = .ok (.ishr, 1) := by decide +kernel
theorem dJ2_length_9d52b_4 : decode cJ2_length_9d52b 4 = .ok (.ireturn, 1) := by decide +kernel
theorem dJ2_charAt_3b067_0 : decode cJ2_charAt_3b067 0 = .ok (.iload_n 1, 1) := by decide +kernel
theorem dJ2_charAt_3b067_1 : decode cJ2_charAt_3b067 1 = .ok (.aload_n 0, 1) := by decide +kernel
theorem dJ2_charAt_3b067_2 : decode cJ2_charAt_3b067 2 = .ok (.invokestatic 67, 3) := by decide +kernel
theorem dJ2_charAt_3b067_5 : decode cJ2_charAt_3b067 5 = .ok (.aload_n 0, 1) := by decide +kernel
theorem dJ2_charAt_3b067_6 : decode cJ2_charAt_3b067 6 = .ok (.iload_n 1, 1) := by decide +kernel
theorem dJ2_charAt_3b067_7 : decode cJ2_charAt_3b067 7 = .ok (.invokestatic 71, 3) := by decide +kernel
theorem dJ2_charAt_3b067_10 : decode cJ2_charAt_3b067 10 = .ok (.ireturn, 1) := by decide +kernel
theorem dJ2_checkIndex_2214a_0 : decode cJ2_checkIndex_2214a 0 = .ok (.iload_n 0, 1) := by decide +kernel
theorem dJ2_checkIndex_2214a_1 : decode cJ2_checkIndex_2214a 1 = .ok (.aload_n 1, 1) := by decide +kernel
theorem dJ2_checkIndex_2214a_2 : decode cJ2_checkIndex_2214a 2 = .ok (.invokestatic 48, 3) := by decide +kernel
theorem dJ2_checkIndex_2214a_5 : decode cJ2_checkIndex_2214a 5 = .ok (.invokestatic 414, 3) := by decide +kernel
theorem dJ2_checkIndex_2214a_8 : decode cJ2_checkIndex_2214a 8 = .ok (.return_, 1) := by decide +kernel
theorem dJ7_fill_53178_0 : decode cJ7_fill_53178 0 = .ok (.iconst 0, 1) := by decide +kernel
theorem dJ7_fill_53178_1 : decode cJ7_fill_53178 1 = .ok (.istore_n 2, 1) := by decide +kernel
theorem dJ7_fill_53178_2 : decode cJ7_fill_53178 2 = .ok (.aload_n 0, 1) := by decide +kernel
theorem dJ7_fill_53178_3 : decode cJ7_fill_53178 3 = .ok (.arraylength, 1) := by decide +kernel
theorem dJ7_fill_53178_4 : decode cJ7_fill_53178 4 = .ok (.istore_n 3, 1) := by decide +kernel
theorem dJ7_fill_53178_5 : decode cJ7_fill_53178 5 = .ok (.iload_n 2, 1) := by decide +kernel
theorem dJ7_fill_53178_6 : decode cJ7_fill_53178 6 = .ok (.iload_n 3, 1) := by decide +kernel
theorem dJ7_fill_53178_7 : decode cJ7_fill_53178 7 = .ok (.if_icmp .ge 13, 3) := by decide +kernel
theorem dJ7_fill_53178_10 : decode cJ7_fill_53178 10 = .ok (.aload_n 0, 1) := by decide +kernel
theorem dJ7_fill_53178_11 : decode cJ7_fill_53178 11 = .ok (.iload_n 2, 1) := by decide +kernel
theorem dJ7_fill_53178_12 : decode cJ7_fill_53178 12 = .ok (.iload_n 1, 1) := by decide +kernel
theorem dJ7_fill_53178_13 : decode cJ7_fill_53178 13 = .ok (.iastore, 1) := by decide +kernel
theorem dJ7_fill_53178_14 : decode cJ7_fill_53178 14 = .ok (.iinc 2 1, 3) := by decide +kernel
theorem dJ7_fill_53178_17 : decode cJ7_fill_53178 17 = .ok (.goto (-12), 3) := by decide +kernel
theorem dJ7_fill_53178_20 : decode cJ7_fill_53178 20 = .ok (.return_, 1) := by decide +kernel
theorem dJ3_checkIndex_8e157_0 : decode cJ3_checkIndex_8e157 0 = .ok (.iload_n 0, 1) := by decide +kernel
theorem dJ3_checkIndex_8e157_1 : decode cJ3_checkIndex_8e157 1 = .ok (.ifCond .lt 8, 3) := by decide +kernel
theorem dJ3_checkIndex_8e157_4 : decode cJ3_checkIndex_8e157 4 = .ok (.iload_n 0, 1) := by decide +kernel
theorem dJ3_checkIndex_8e157_5 : decode cJ3_checkIndex_8e157 5 = .ok (.iload_n 1, 1) := by decide +kernel
theorem dJ3_checkIndex_8e157_6 : decode cJ3_checkIndex_8e157 6 = .ok (.if_icmp .lt 10, 3) := by decide +kernel
theorem dJ3_checkIndex_8e157_9 : decode cJ3_checkIndex_8e157 9 = .ok (.aload_n 2, 1) := by decide +kernel
theorem dJ3_checkIndex_8e157_10 : decode cJ3_checkIndex_8e157 10 = .ok (.iload_n 0, 1) := by decide +kernel
theorem dJ3_checkIndex_8e157_11 : decode cJ3_checkIndex_8e157 11 = .ok (.iload_n 1, 1) := by decide +kernel
theorem dJ3_checkIndex_8e157_12 : decode cJ3_checkIndex_8e157 12 = .ok (.invokestatic 95, 3) := by decide +kernel
theorem dJ3_checkIndex_8e157_15 : decode cJ3_checkIndex_8e157 15 = .ok (.athrow, 1) := by decide +kernel
theorem dJ3_checkIndex_8e157_16 : decode cJ3_checkIndex_8e157 16 = .ok (.iload_n 0, 1) := by decide +kernel
theorem dJ3_checkIndex_8e157_17 : decode cJ3_checkIndex_8e157 17 = .ok (.ireturn, 1) := by decide +kernel
