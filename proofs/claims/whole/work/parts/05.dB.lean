theorem dX8_init_0 : decode cX8_init 0 = .ok (.aload_n 0, 1) := by decide +kernel
theorem dX8_init_1 : decode cX8_init 1 = .ok (.invokespecial 3, 3) := by decide +kernel
theorem dX8_init_4 : decode cX8_init 4 = .ok (.aload_n 0, 1) := by decide +kernel
theorem dX8_init_5 : decode cX8_init 5 = .ok (.new 9, 3) := by decide +kernel
theorem dX8_init_8 : decode cX8_init 8 = .ok (.dup, 1) := by decide +kernel
theorem dX8_init_9 : decode cX8_init 9 = .ok (.invokespecial 11, 3) := by decide +kernel
theorem dX8_init_12 : decode cX8_init 12 = .ok (.putfield 12, 3) := by decide +kernel
theorem dX8_init_15 : decode cX8_init 15 = .ok (.aload_n 0, 1) := by decide +kernel
theorem dX8_init_16 : decode cX8_init 16 = .ok (.new 16, 3) := by decide +kernel
theorem dX8_init_19 : decode cX8_init 19 = .ok (.dup, 1) := by decide +kernel
theorem dX8_init_20 : decode cX8_init 20 = .ok (.invokespecial 18, 3) := by decide +kernel
theorem dX8_init_23 : decode cX8_init 23 = .ok (.putfield 19, 3) := by decide +kernel
theorem dX8_init_26 : decode cX8_init 26 = .ok (.aload_n 0, 1) := by decide +kernel
theorem dX8_init_27 : decode cX8_init 27 = .ok (.iconst 5, 1) := by decide +kernel
theorem dX8_init_28 : decode cX8_init 28 = .ok (.anewarray 23, 3) := by decide +kernel
theorem dX8_init_31 : decode cX8_init 31 = .ok (.putfield 25, 3) := by decide +kernel
theorem dX8_init_34 : decode cX8_init 34 = .ok (.aload_n 0, 1) := by decide +kernel
theorem dX8_init_35 : decode cX8_init 35 = .ok (.bipush 40, 2) := by decide +kernel
theorem dX8_init_37 : decode cX8_init 37 = .ok (.anewarray 29, 3) := by decide +kernel
theorem dX8_init_40 : decode cX8_init 40 = .ok (.putfield 31, 3) := by decide +kernel
theorem dX8_init_43 : decode cX8_init 43 = .ok (.aload_n 0, 1) := by decide +kernel
theorem dX8_init_44 : decode cX8_init 44 = .ok (.new 35, 3) := by decide +kernel
theorem dX8_init_47 : decode cX8_init 47 = .ok (.dup, 1) := by decide +kernel
theorem dX8_init_48 : decode cX8_init 48 = .ok (.invokespecial 37, 3) := by decide +kernel
theorem dX8_init_51 : decode cX8_init 51 = .ok (.putfield 38, 3) := by decide +kernel
theorem dX8_init_54 : decode cX8_init 54 = .ok (.aload_n 0, 1) := by decide +kernel
theorem dX8_init_55 : decode cX8_init 55 = .ok (.new 42, 3) := by decide +kernel
theorem dX8_init_58 : decode cX8_init 58 = .ok (.dup, 1) := by decide +kernel
theorem dX8_init_59 : decode cX8_init 59 = .ok (.invokespecial 44, 3) := by decide +kernel
theorem dX8_init_62 : decode cX8_init 62 = .ok (.putfield 45, 3) := by decide +kernel
theorem dX8_init_65 : decode cX8_init 65 = .ok (.aload_n 0, 1) := by decide +kernel
theorem dX8_init_66 : decode cX8_init 66 = .ok (.new 49, 3) := by decide +kernel
theorem dX8_init_69 : decode cX8_init 69 = .ok (.dup, 1) := by decide +kernel
theorem dX8_init_70 : decode cX8_init 70 = .ok (.invokespecial 51, 3) := by decide +kernel
theorem dX8_init_73 : decode cX8_init 73 = .ok (.putfield 52, 3) := by decide +kernel
theorem dX8_init_76 : decode cX8_init 76 = .ok (.aload_n 0, 1) := by decide +kernel
theorem dX8_init_77 : decode cX8_init 77 = .ok (.new 56, 3) := by decide +kernel
theorem dX8_init_80 : decode cX8_init 80 = .ok (.dup, 1) := by decide +kernel
theorem dX8_init_81 : decode cX8_init 81 = .ok (.invokespecial 58, 3) := by decide +kernel
theorem dX8_init_84 : decode cX8_init 84 = .ok (.putfield 59, 3) := by decide +kernel
theorem dX8_init_87 : decode cX8_init 87 = .ok (.aload_n 0, 1) := by decide +kernel
theorem dX8_init_88 : decode cX8_init 88 = .ok (.new 56, 3) := by decide +kernel
theorem dX8_init_91 : decode cX8_init 91 = .ok (.dup, 1) := by decide +kernel
theorem dX8_init_92 : decode cX8_init 92 = .ok (.invokespecial 58, 3) := by decide +kernel
theorem dX8_init_95 : decode cX8_init 95 = .ok (.putfield 63, 3) := by decide +kernel
theorem dX8_init_98 : decode cX8_init 98 = .ok (.aload_n 0, 1) := by decide +kernel
theorem dX8_init_99 : decode cX8_init 99 = .ok (.new 56, 3) := by decide +kernel
theorem dX8_init_102 : decode cX8_init 102 = .ok (.dup, 1) := by decide +kernel
theorem dX8_init_103 : decode cX8_init 103 = .ok (.invokespecial 58, 3) := by decide +kernel
theorem dX8_init_106 : decode cX8_init 106 = .ok (.putfield 66, 3) := by decide +kernel
theorem dX8_init_109 : decode cX8_init 109 = .ok (.aload_n 0, 1) := by decide +kernel
theorem dX8_init_110 : decode cX8_init 110 = .ok (.iconst 0, 1) := by decide +kernel
theorem dX8_init_111 : decode cX8_init 111 = .ok (.putfield 69, 3) := by decide +kernel
theorem dX8_init_114 : decode cX8_init 114 = .ok (.aload_n 0, 1) := by decide +kernel
theorem dX8_init_115 : decode cX8_init 115 = .ok (.iconst 0, 1) := by decide +kernel
theorem dX8_init_116 : decode cX8_init 116 = .ok (.putfield 73, 3) := by decide +kernel
theorem dX8_init_119 : decode cX8_init 119 = .ok (.aload_n 0, 1) := by decide +kernel
theorem dX8_init_120 : decode cX8_init 120 = .ok (.iconst 0, 1) := by decide +kernel
theorem dX8_init_121 : decode cX8_init 121 = .ok (.putfield 76, 3) := by decide +kernel
theorem dX8_init_124 : decode cX8_init 124 = .ok (.aload_n 0, 1) := by decide +kernel
theorem dX8_init_125 : decode cX8_init 125 = .ok (.sipush 1000, 3) := by decide +kernel
theorem dX8_init_128 : decode cX8_init 128 = .ok (.putfield 79, 3) := by decide +kernel
theorem dX8_init_131 : decode cX8_init 131 = .ok (.iconst 0, 1) := by decide +kernel
theorem dX8_init_132 : decode cX8_init 132 = .ok (.istore_n 1, 1) := by decide +kernel
theorem dX8_init_133 : decode cX8_init 133 = .ok (.iload_n 1, 1) := by decide +kernel
theorem dX8_init_134 : decode cX8_init 134 = .ok (.iconst 5, 1) := by decide +kernel
theorem dX8_init_135 : decode cX8_init 135 = .ok (.if_icmp .ge 22, 3) := by decide +kernel
theorem dX8_init_138 : decode cX8_init 138 = .ok (.aload_n 0, 1) := by decide +kernel
theorem dX8_init_139 : decode cX8_init 139 = .ok (.getfield 25, 3) := by decide +kernel
theorem dX8_init_142 : decode cX8_init 142 = .ok (.iload_n 1, 1) := by decide +kernel
theorem dX8_init_143 : decode cX8_init 143 = .ok (.new 23, 3) := by decide +kernel
theorem dX8_init_146 : decode cX8_init 146 = .ok (.dup, 1) := by decide +kernel
theorem dX8_init_147 : decode cX8_init 147 = .ok (.invokespecial 82, 3) := by decide +kernel
theorem dX8_init_150 : decode cX8_init 150 = .ok (.aastore, 1) := by decide +kernel
theorem dX8_init_151 : decode cX8_init 151 = .ok (.iinc 1 1, 3) := by decide +kernel
theorem dX8_init_154 : decode cX8_init 154 = .ok (.goto (-21), 3) := by decide +kernel
theorem dX8_init_157 : decode cX8_init 157 = .ok (.iconst 0, 1) := by decide +kernel
theorem dX8_init_158 : decode cX8_init 158 = .ok (.istore_n 1, 1) := by decide +kernel
theorem dX8_init_159 : decode cX8_init 159 = .ok (.iload_n 1, 1) := by decide +kernel
theorem dX8_init_160 : decode cX8_init 160 = .ok (.bipush 40, 2) := by decide +kernel
theorem dX8_init_162 : decode cX8_init 162 = .ok (.if_icmp .ge 22, 3) := by decide +kernel
theorem dX8_init_165 : decode cX8_init 165 = .ok (.aload_n 0, 1) := by decide +kernel
theorem dX8_init_166 : decode cX8_init 166 = .ok (.getfield 31, 3) := by decide +kernel
theorem dX8_init_169 : decode cX8_init 169 = .ok (.iload_n 1, 1) := by decide +kernel
theorem dX8_init_170 : decode cX8_init 170 = .ok (.new 29, 3) := by decide +kernel
theorem dX8_init_173 : decode cX8_init 173 = .ok (.dup, 1) := by decide +kernel
theorem dX8_init_174 : decode cX8_init 174 = .ok (.invokespecial 83, 3) := by decide +kernel
theorem dX8_init_177 : decode cX8_init 177 = .ok (.aastore, 1) := by decide +kernel
theorem dX8_init_178 : decode cX8_init 178 = .ok (.iinc 1 1, 3) := by decide +kernel
theorem dX8_init_181 : decode cX8_init 181 = .ok (.goto (-22), 3) := by decide +kernel
theorem dX8_init_184 : decode cX8_init 184 = .ok (.return_, 1) := by decide +kernel
theorem dX8_step_0 : decode cX8_step 0 = .ok (.iload_n 1, 1) := by decide +kernel
theorem dX8_step_1 : decode cX8_step 1 = .ok (.iload_n 2, 1) := by decide +kernel
theorem dX8_step_2 : decode cX8_step 2 = .ok (.iload_n 3, 1) := by decide +kernel
theorem dX8_step_3 : decode cX8_step 3 = .ok (.invokestatic 84, 3) := by decide +kernel
theorem dX8_step_6 : decode cX8_step 6 = .ok (.ifCond .ne 11, 3) := by decide +kernel
theorem dX8_step_9 : decode cX8_step 9 = .ok (.new 88, 3) := by decide +kernel
theorem dX8_step_12 : decode cX8_step 12 = .ok (.dup, 1) := by decide +kernel
theorem dX8_step_13 : decode cX8_step 13 = .ok (.invokespecial 90, 3) := by decide +kernel
theorem dX8_step_16 : decode cX8_step 16 = .ok (.athrow, 1) := by decide +kernel
theorem dX8_step_17 : decode cX8_step 17 = .ok (.aload_n 0, 1) := by decide +kernel
theorem dX8_step_18 : decode cX8_step 18 = .ok (.getfield 12, 3) := by decide +kernel
theorem dX8_step_21 : decode cX8_step 21 = .ok (.getfield 91, 3) := by decide +kernel
theorem dX8_step_24 : decode cX8_step 24 = .ok (.bipush 20, 2) := by decide +kernel
theorem dX8_step_26 : decode cX8_step 26 = .ok (.if_icmp .lt 11, 3) := by decide +kernel
theorem dX8_step_29 : decode cX8_step 29 = .ok (.new 94, 3) := by decide +kernel
theorem dX8_step_32 : decode cX8_step 32 = .ok (.dup, 1) := by decide +kernel
theorem dX8_step_33 : decode cX8_step 33 = .ok (.invokespecial 96, 3) := by decide +kernel
theorem dX8_step_36 : decode cX8_step 36 = .ok (.athrow, 1) := by decide +kernel
theorem dX8_step_37 : decode cX8_step 37 = .ok (.aload_n 0, 1) := by decide +kernel
theorem dX8_step_38 : decode cX8_step 38 = .ok (.getfield 12, 3) := by decide +kernel
theorem dX8_step_41 : decode cX8_step 41 = .ok (.iload_n 1, 1) := by decide +kernel
theorem dX8_step_42 : decode cX8_step 42 = .ok (.iload_n 2, 1) := by decide +kernel
theorem dX8_step_43 : decode cX8_step 43 = .ok (.iload_n 3, 1) := by decide +kernel
theorem dX8_step_44 : decode cX8_step 44 = .ok (.invokevirtual 97, 3) := by decide +kernel
theorem dX8_step_47 : decode cX8_step 47 = .ok (.aload_n 0, 1) := by decide +kernel
theorem dX8_step_48 : decode cX8_step 48 = .ok (.getfield 12, 3) := by decide +kernel
theorem dX8_step_51 : decode cX8_step 51 = .ok (.getfield 91, 3) := by decide +kernel
theorem dX8_step_54 : decode cX8_step 54 = .ok (.ireturn, 1) := by decide +kernel
theorem dX8_number_0 : decode cX8_number 0 = .ok (.iload_n 1, 1) := by decide +kernel
theorem dX8_number_1 : decode cX8_number 1 = .ok (.invokestatic 101, 3) := by decide +kernel
theorem dX8_number_4 : decode cX8_number 4 = .ok (.ifCond .ne 11, 3) := by decide +kernel
theorem dX8_number_7 : decode cX8_number 7 = .ok (.new 88, 3) := by decide +kernel
theorem dX8_number_10 : decode cX8_number 10 = .ok (.dup, 1) := by decide +kernel
theorem dX8_number_11 : decode cX8_number 11 = .ok (.invokespecial 90, 3) := by decide +kernel
theorem dX8_number_14 : decode cX8_number 14 = .ok (.athrow, 1) := by decide +kernel
theorem dX8_number_15 : decode cX8_number 15 = .ok (.aload_n 0, 1) := by decide +kernel
theorem dX8_number_16 : decode cX8_number 16 = .ok (.getfield 19, 3) := by decide +kernel
theorem dX8_number_19 : decode cX8_number 19 = .ok (.iload_n 2, 1) := by decide +kernel
theorem dX8_number_20 : decode cX8_number 20 = .ok (.invokevirtual 105, 3) := by decide +kernel
theorem dX8_number_23 : decode cX8_number 23 = .ok (.ifCond .ne 11, 3) := by decide +kernel
theorem dX8_number_26 : decode cX8_number 26 = .ok (.new 94, 3) := by decide +kernel
theorem dX8_number_29 : decode cX8_number 29 = .ok (.dup, 1) := by decide +kernel
theorem dX8_number_30 : decode cX8_number 30 = .ok (.invokespecial 96, 3) := by decide +kernel
theorem dX8_number_33 : decode cX8_number 33 = .ok (.athrow, 1) := by decide +kernel
theorem dX8_number_34 : decode cX8_number 34 = .ok (.aload_n 0, 1) := by decide +kernel
theorem dX8_number_35 : decode cX8_number 35 = .ok (.getfield 19, 3) := by decide +kernel
theorem dX8_number_38 : decode cX8_number 38 = .ok (.iload_n 1, 1) := by decide +kernel
theorem dX8_number_39 : decode cX8_number 39 = .ok (.iload_n 2, 1) := by decide +kernel
theorem dX8_number_40 : decode cX8_number 40 = .ok (.invokevirtual 109, 3) := by decide +kernel
theorem dX8_number_43 : decode cX8_number 43 = .ok (.ireturn, 1) := by decide +kernel
theorem dX8_wipe_0 : decode cX8_wipe 0 = .ok (.iload_n 1, 1) := by decide +kernel
theorem dX8_wipe_1 : decode cX8_wipe 1 = .ok (.ifCond .eq 11, 3) := by decide +kernel
theorem dX8_wipe_4 : decode cX8_wipe 4 = .ok (.aload_n 0, 1) := by decide +kernel
theorem dX8_wipe_5 : decode cX8_wipe 5 = .ok (.getfield 12, 3) := by decide +kernel
theorem dX8_wipe_8 : decode cX8_wipe 8 = .ok (.invokevirtual 112, 3) := by decide +kernel
theorem dX8_wipe_11 : decode cX8_wipe 11 = .ok (.ireturn, 1) := by decide +kernel
theorem dX8_wipe_12 : decode cX8_wipe 12 = .ok (.aload_n 0, 1) := by decide +kernel
theorem dX8_wipe_13 : decode cX8_wipe 13 = .ok (.getfield 19, 3) := by decide +kernel
theorem dX8_wipe_16 : decode cX8_wipe 16 = .ok (.invokevirtual 116, 3) := by decide +kernel
theorem dX8_wipe_19 : decode cX8_wipe 19 = .ok (.ireturn, 1) := by decide +kernel
theorem dX8_problem_0 : decode cX8_problem 0 = .ok (.iload_n 1, 1) := by decide +kernel
theorem dX8_problem_1 : decode cX8_problem 1 = .ok (.invokestatic 117, 3) := by decide +kernel
theorem dX8_problem_4 : decode cX8_problem 4 = .ok (.ifCond .eq 14, 3) := by decide +kernel
theorem dX8_problem_7 : decode cX8_problem 7 = .ok (.iload_n 2, 1) := by decide +kernel
theorem dX8_problem_8 : decode cX8_problem 8 = .ok (.iconst 1, 1) := by decide +kernel
theorem dX8_problem_9 : decode cX8_problem 9 = .ok (.sipush 400, 3) := by decide +kernel
theorem dX8_problem_12 : decode cX8_problem 12 = .ok (.invokestatic 120, 3) := by decide +kernel
theorem dX8_problem_15 : decode cX8_problem 15 = .ok (.ifCond .ne 11, 3) := by decide +kernel
theorem dX8_problem_18 : decode cX8_problem 18 = .ok (.new 88, 3) := by decide +kernel
theorem dX8_problem_21 : decode cX8_problem 21 = .ok (.dup, 1) := by decide +kernel
theorem dX8_problem_22 : decode cX8_problem 22 = .ok (.invokespecial 90, 3) := by decide +kernel
theorem dX8_problem_25 : decode cX8_problem 25 = .ok (.athrow, 1) := by decide +kernel
theorem dX8_problem_26 : decode cX8_problem 26 = .ok (.aload_n 0, 1) := by decide +kernel
theorem dX8_problem_27 : decode cX8_problem 27 = .ok (.getfield 69, 3) := by decide +kernel
theorem dX8_problem_30 : decode cX8_problem 30 = .ok (.iconst 5, 1) := by decide +kernel
theorem dX8_problem_31 : decode cX8_problem 31 = .ok (.if_icmp .lt 11, 3) := by decide +kernel
theorem dX8_problem_34 : decode cX8_problem 34 = .ok (.new 94, 3) := by decide +kernel
theorem dX8_problem_37 : decode cX8_problem 37 = .ok (.dup, 1) := by decide +kernel
theorem dX8_problem_38 : decode cX8_problem 38 = .ok (.invokespecial 96, 3) := by decide +kernel
theorem dX8_problem_41 : decode cX8_problem 41 = .ok (.athrow, 1) := by decide +kernel
theorem dX8_problem_42 : decode cX8_problem 42 = .ok (.aload_n 0, 1) := by decide +kernel
theorem dX8_problem_43 : decode cX8_problem 43 = .ok (.getfield 25, 3) := by decide +kernel
theorem dX8_problem_46 : decode cX8_problem 46 = .ok (.aload_n 0, 1) := by decide +kernel
theorem dX8_problem_47 : decode cX8_problem 47 = .ok (.getfield 69, 3) := by decide +kernel
theorem dX8_problem_50 : decode cX8_problem 50 = .ok (.aaload, 1) := by decide +kernel
theorem dX8_problem_51 : decode cX8_problem 51 = .ok (.iload_n 1, 1) := by decide +kernel
theorem dX8_problem_52 : decode cX8_problem 52 = .ok (.putfield 124, 3) := by decide +kernel
theorem dX8_problem_55 : decode cX8_problem 55 = .ok (.aload_n 0, 1) := by decide +kernel
theorem dX8_problem_56 : decode cX8_problem 56 = .ok (.getfield 25, 3) := by decide +kernel
theorem dX8_problem_59 : decode cX8_problem 59 = .ok (.aload_n 0, 1) := by decide +kernel
theorem dX8_problem_60 : decode cX8_problem 60 = .ok (.getfield 69, 3) := by decide +kernel
theorem dX8_problem_63 : decode cX8_problem 63 = .ok (.aaload, 1) := by decide +kernel
theorem dX8_problem_64 : decode cX8_problem 64 = .ok (.iload_n 2, 1) := by decide +kernel
theorem dX8_problem_65 : decode cX8_problem 65 = .ok (.putfield 127, 3) := by decide +kernel
theorem dX8_problem_68 : decode cX8_problem 68 = .ok (.aload_n 0, 1) := by decide +kernel
theorem dX8_problem_69 : decode cX8_problem 69 = .ok (.dup, 1) := by decide +kernel
theorem dX8_problem_70 : decode cX8_problem 70 = .ok (.getfield 69, 3) := by decide +kernel
theorem dX8_problem_73 : decode cX8_problem 73 = .ok (.iconst 1, 1) := by decide +kernel
theorem dX8_problem_74 : decode cX8_problem 74 = .ok (.iadd, 1) := by decide +kernel
theorem dX8_problem_75 : decode cX8_problem 75 = .ok (.putfield 69, 3) := by decide +kernel
theorem dX8_problem_78 : decode cX8_problem 78 = .ok (.aload_n 0, 1) := by decide +kernel
theorem dX8_problem_79 : decode cX8_problem 79 = .ok (.getfield 69, 3) := by decide +kernel
theorem dX8_problem_82 : decode cX8_problem 82 = .ok (.iconst 1, 1) := by decide +kernel
theorem dX8_problem_83 : decode cX8_problem 83 = .ok (.isub, 1) := by decide +kernel
theorem dX8_problem_84 : decode cX8_problem 84 = .ok (.ireturn, 1) := by decide +kernel
theorem dX8_test_0 : decode cX8_test 0 = .ok (.aload_n 0, 1) := by decide +kernel
theorem dX8_test_1 : decode cX8_test 1 = .ok (.iload_n 1, 1) := by decide +kernel
theorem dX8_test_2 : decode cX8_test 2 = .ok (.invokevirtual 130, 3) := by decide +kernel
theorem dX8_test_5 : decode cX8_test 5 = .ok (.ifCond .ne 11, 3) := by decide +kernel
theorem dX8_test_8 : decode cX8_test 8 = .ok (.new 133, 3) := by decide +kernel
theorem dX8_test_11 : decode cX8_test 11 = .ok (.dup, 1) := by decide +kernel
theorem dX8_test_12 : decode cX8_test 12 = .ok (.invokespecial 135, 3) := by decide +kernel
theorem dX8_test_15 : decode cX8_test 15 = .ok (.athrow, 1) := by decide +kernel
theorem dX8_test_16 : decode cX8_test 16 = .ok (.aload_n 0, 1) := by decide +kernel
theorem dX8_test_17 : decode cX8_test 17 = .ok (.getfield 25, 3) := by decide +kernel
theorem dX8_test_20 : decode cX8_test 20 = .ok (.iload_n 1, 1) := by decide +kernel
theorem dX8_test_21 : decode cX8_test 21 = .ok (.aaload, 1) := by decide +kernel
theorem dX8_test_22 : decode cX8_test 22 = .ok (.getfield 136, 3) := by decide +kernel
theorem dX8_test_25 : decode cX8_test 25 = .ok (.istore_n 2, 1) := by decide +kernel
theorem dX8_test_26 : decode cX8_test 26 = .ok (.iload_n 2, 1) := by decide +kernel
theorem dX8_test_27 : decode cX8_test 27 = .ok (.bipush 6, 2) := by decide +kernel
theorem dX8_test_29 : decode cX8_test 29 = .ok (.if_icmp .lt 11, 3) := by decide +kernel
theorem dX8_test_32 : decode cX8_test 32 = .ok (.new 94, 3) := by decide +kernel
theorem dX8_test_35 : decode cX8_test 35 = .ok (.dup, 1) := by decide +kernel
theorem dX8_test_36 : decode cX8_test 36 = .ok (.invokespecial 96, 3) := by decide +kernel
theorem dX8_test_39 : decode cX8_test 39 = .ok (.athrow, 1) := by decide +kernel
theorem dX8_test_40 : decode cX8_test 40 = .ok (.aload_n 0, 1) := by decide +kernel
theorem dX8_test_41 : decode cX8_test 41 = .ok (.getfield 25, 3) := by decide +kernel
theorem dX8_test_44 : decode cX8_test 44 = .ok (.iload_n 1, 1) := by decide +kernel
theorem dX8_test_45 : decode cX8_test 45 = .ok (.aaload, 1) := by decide +kernel
theorem dX8_test_46 : decode cX8_test 46 = .ok (.dup, 1) := by decide +kernel
theorem dX8_test_47 : decode cX8_test 47 = .ok (.getfield 136, 3) := by decide +kernel
theorem dX8_test_50 : decode cX8_test 50 = .ok (.iconst 1, 1) := by decide +kernel
theorem dX8_test_51 : decode cX8_test 51 = .ok (.iadd, 1) := by decide +kernel
theorem dX8_test_52 : decode cX8_test 52 = .ok (.putfield 136, 3) := by decide +kernel
theorem dX8_test_55 : decode cX8_test 55 = .ok (.aload_n 0, 1) := by decide +kernel
theorem dX8_test_56 : decode cX8_test 56 = .ok (.getfield 25, 3) := by decide +kernel
theorem dX8_test_59 : decode cX8_test 59 = .ok (.iload_n 1, 1) := by decide +kernel
theorem dX8_test_60 : decode cX8_test 60 = .ok (.aaload, 1) := by decide +kernel
theorem dX8_test_61 : decode cX8_test 61 = .ok (.getfield 139, 3) := by decide +kernel
theorem dX8_test_64 : decode cX8_test 64 = .ok (.iload_n 2, 1) := by decide +kernel
theorem dX8_test_65 : decode cX8_test 65 = .ok (.aaload, 1) := by decide +kernel
theorem dX8_test_66 : decode cX8_test 66 = .ok (.aload_n 0, 1) := by decide +kernel
theorem dX8_test_67 : decode cX8_test 67 = .ok (.getfield 19, 3) := by decide +kernel
theorem dX8_test_70 : decode cX8_test 70 = .ok (.invokevirtual 143, 3) := by decide +kernel
theorem dX8_test_73 : decode cX8_test 73 = .ok (.aload_n 0, 1) := by decide +kernel
theorem dX8_test_74 : decode cX8_test 74 = .ok (.iload_n 1, 1) := by decide +kernel
theorem dX8_test_75 : decode cX8_test 75 = .ok (.iload_n 2, 1) := by decide +kernel
theorem dX8_test_76 : decode cX8_test 76 = .ok (.invokevirtual 147, 3) := by decide +kernel
theorem dX8_test_79 : decode cX8_test 79 = .ok (.ireturn, 1) := by decide +kernel
theorem dX8_fix_0 : decode cX8_fix 0 = .ok (.aload_n 0, 1) := by decide +kernel
theorem dX8_fix_1 : decode cX8_fix 1 = .ok (.iload_n 1, 1) := by decide +kernel
theorem dX8_fix_2 : decode cX8_fix 2 = .ok (.invokevirtual 130, 3) := by decide +kernel
theorem dX8_fix_5 : decode cX8_fix 5 = .ok (.ifCond .eq 16, 3) := by decide +kernel
theorem dX8_fix_8 : decode cX8_fix 8 = .ok (.aload_n 0, 1) := by decide +kernel
theorem dX8_fix_9 : decode cX8_fix 9 = .ok (.getfield 25, 3) := by decide +kernel
theorem dX8_fix_12 : decode cX8_fix 12 = .ok (.iload_n 1, 1) := by decide +kernel
theorem dX8_fix_13 : decode cX8_fix 13 = .ok (.aaload, 1) := by decide +kernel
theorem dX8_fix_14 : decode cX8_fix 14 = .ok (.iload_n 2, 1) := by decide +kernel
theorem dX8_fix_15 : decode cX8_fix 15 = .ok (.invokevirtual 151, 3) := by decide +kernel
theorem dX8_fix_18 : decode cX8_fix 18 = .ok (.ifCond .ne 11, 3) := by decide +kernel
theorem dX8_fix_21 : decode cX8_fix 21 = .ok (.new 133, 3) := by decide +kernel
theorem dX8_fix_24 : decode cX8_fix 24 = .ok (.dup, 1) := by decide +kernel
theorem dX8_fix_25 : decode cX8_fix 25 = .ok (.invokespecial 135, 3) := by decide +kernel
theorem dX8_fix_28 : decode cX8_fix 28 = .ok (.athrow, 1) := by decide +kernel
theorem dX8_fix_29 : decode cX8_fix 29 = .ok (.aload_n 0, 1) := by decide +kernel
theorem dX8_fix_30 : decode cX8_fix 30 = .ok (.getfield 25, 3) := by decide +kernel
theorem dX8_fix_33 : decode cX8_fix 33 = .ok (.iload_n 1, 1) := by decide +kernel
theorem dX8_fix_34 : decode cX8_fix 34 = .ok (.aaload, 1) := by decide +kernel
theorem dX8_fix_35 : decode cX8_fix 35 = .ok (.getfield 139, 3) := by decide +kernel
theorem dX8_fix_38 : decode cX8_fix 38 = .ok (.iload_n 2, 1) := by decide +kernel
theorem dX8_fix_39 : decode cX8_fix 39 = .ok (.aaload, 1) := by decide +kernel
theorem dX8_fix_40 : decode cX8_fix 40 = .ok (.aload_n 0, 1) := by decide +kernel
theorem dX8_fix_41 : decode cX8_fix 41 = .ok (.getfield 19, 3) := by decide +kernel
theorem dX8_fix_44 : decode cX8_fix 44 = .ok (.invokevirtual 143, 3) := by decide +kernel
theorem dX8_fix_47 : decode cX8_fix 47 = .ok (.aload_n 0, 1) := by decide +kernel
theorem dX8_fix_48 : decode cX8_fix 48 = .ok (.iload_n 1, 1) := by decide +kernel
theorem dX8_fix_49 : decode cX8_fix 49 = .ok (.iload_n 2, 1) := by decide +kernel
theorem dX8_fix_50 : decode cX8_fix 50 = .ok (.invokevirtual 147, 3) := by decide +kernel
theorem dX8_fix_53 : decode cX8_fix 53 = .ok (.ireturn, 1) := by decide +kernel
theorem dX8_tests_0 : decode cX8_tests 0 = .ok (.aload_n 0, 1) := by decide +kernel
theorem dX8_tests_1 : decode cX8_tests 1 = .ok (.iload_n 1, 1) := by decide +kernel
theorem dX8_tests_2 : decode cX8_tests 2 = .ok (.invokevirtual 130, 3) := by decide +kernel
theorem dX8_tests_5 : decode cX8_tests 5 = .ok (.ifCond .ne 11, 3) := by decide +kernel
theorem dX8_tests_8 : decode cX8_tests 8 = .ok (.new 133, 3) := by decide +kernel
theorem dX8_tests_11 : decode cX8_tests 11 = .ok (.dup, 1) := by decide +kernel
theorem dX8_tests_12 : decode cX8_tests 12 = .ok (.invokespecial 135, 3) := by decide +kernel
theorem dX8_tests_15 : decode cX8_tests 15 = .ok (.athrow, 1) := by decide +kernel
theorem dX8_tests_16 : decode cX8_tests 16 = .ok (.aload_n 0, 1) := by decide +kernel
theorem dX8_tests_17 : decode cX8_tests 17 = .ok (.getfield 25, 3) := by decide +kernel
theorem dX8_tests_20 : decode cX8_tests 20 = .ok (.iload_n 1, 1) := by decide +kernel
theorem dX8_tests_21 : decode cX8_tests 21 = .ok (.aaload, 1) := by decide +kernel
theorem dX8_tests_22 : decode cX8_tests 22 = .ok (.getfield 136, 3) := by decide +kernel
theorem dX8_tests_25 : decode cX8_tests 25 = .ok (.ireturn, 1) := by decide +kernel
theorem dX8_team_0 : decode cX8_team 0 = .ok (.aload_n 0, 1) := by decide +kernel
theorem dX8_team_1 : decode cX8_team 1 = .ok (.getfield 73, 3) := by decide +kernel
theorem dX8_team_4 : decode cX8_team 4 = .ok (.bipush 8, 2) := by decide +kernel
theorem dX8_team_6 : decode cX8_team 6 = .ok (.if_icmp .lt 11, 3) := by decide +kernel
theorem dX8_team_9 : decode cX8_team 9 = .ok (.new 94, 3) := by decide +kernel
theorem dX8_team_12 : decode cX8_team 12 = .ok (.dup, 1) := by decide +kernel
theorem dX8_team_13 : decode cX8_team 13 = .ok (.invokespecial 96, 3) := by decide +kernel
theorem dX8_team_16 : decode cX8_team 16 = .ok (.athrow, 1) := by decide +kernel
theorem dX8_team_17 : decode cX8_team 17 = .ok (.aload_n 0, 1) := by decide +kernel
theorem dX8_team_18 : decode cX8_team 18 = .ok (.dup, 1) := by decide +kernel
theorem dX8_team_19 : decode cX8_team 19 = .ok (.getfield 73, 3) := by decide +kernel
theorem dX8_team_22 : decode cX8_team 22 = .ok (.iconst 1, 1) := by decide +kernel
theorem dX8_team_23 : decode cX8_team 23 = .ok (.iadd, 1) := by decide +kernel
theorem dX8_team_24 : decode cX8_team 24 = .ok (.putfield 73, 3) := by decide +kernel
theorem dX8_team_27 : decode cX8_team 27 = .ok (.aload_n 0, 1) := by decide +kernel
theorem dX8_team_28 : decode cX8_team 28 = .ok (.invokevirtual 154, 3) := by decide +kernel
theorem dX8_team_31 : decode cX8_team 31 = .ok (.aload_n 0, 1) := by decide +kernel
theorem dX8_team_32 : decode cX8_team 32 = .ok (.getfield 73, 3) := by decide +kernel
theorem dX8_team_35 : decode cX8_team 35 = .ok (.iconst 1, 1) := by decide +kernel
theorem dX8_team_36 : decode cX8_team 36 = .ok (.isub, 1) := by decide +kernel
theorem dX8_team_37 : decode cX8_team 37 = .ok (.ireturn, 1) := by decide +kernel
theorem dX8_submit_0 : decode cX8_submit 0 = .ok (.aload_n 0, 1) := by decide +kernel
theorem dX8_submit_1 : decode cX8_submit 1 = .ok (.iload_n 1, 1) := by decide +kernel
theorem dX8_submit_2 : decode cX8_submit 2 = .ok (.invokevirtual 157, 3) := by decide +kernel
theorem dX8_submit_5 : decode cX8_submit 5 = .ok (.ifCond .eq 11, 3) := by decide +kernel
theorem dX8_submit_8 : decode cX8_submit 8 = .ok (.aload_n 0, 1) := by decide +kernel
theorem dX8_submit_9 : decode cX8_submit 9 = .ok (.iload_n 2, 1) := by decide +kernel
theorem dX8_submit_10 : decode cX8_submit 10 = .ok (.invokevirtual 130, 3) := by decide +kernel
theorem dX8_submit_13 : decode cX8_submit 13 = .ok (.ifCond .ne 11, 3) := by decide +kernel
theorem dX8_submit_16 : decode cX8_submit 16 = .ok (.new 133, 3) := by decide +kernel
theorem dX8_submit_19 : decode cX8_submit 19 = .ok (.dup, 1) := by decide +kernel
theorem dX8_submit_20 : decode cX8_submit 20 = .ok (.invokespecial 135, 3) := by decide +kernel
theorem dX8_submit_23 : decode cX8_submit 23 = .ok (.athrow, 1) := by decide +kernel
theorem dX8_submit_24 : decode cX8_submit 24 = .ok (.iload_n 3, 1) := by decide +kernel
theorem dX8_submit_25 : decode cX8_submit 25 = .ok (.aload_n 0, 1) := by decide +kernel
theorem dX8_submit_26 : decode cX8_submit 26 = .ok (.invokevirtual 160, 3) := by decide +kernel
theorem dX8_submit_29 : decode cX8_submit 29 = .ok (.sipush 999, 3) := by decide +kernel
theorem dX8_submit_32 : decode cX8_submit 32 = .ok (.invokestatic 120, 3) := by decide +kernel
theorem dX8_submit_35 : decode cX8_submit 35 = .ok (.ifCond .ne 11, 3) := by decide +kernel
theorem dX8_submit_38 : decode cX8_submit 38 = .ok (.new 88, 3) := by decide +kernel
theorem dX8_submit_41 : decode cX8_submit 41 = .ok (.dup, 1) := by decide +kernel
theorem dX8_submit_42 : decode cX8_submit 42 = .ok (.invokespecial 90, 3) := by decide +kernel
theorem dX8_submit_45 : decode cX8_submit 45 = .ok (.athrow, 1) := by decide +kernel
theorem dX8_submit_46 : decode cX8_submit 46 = .ok (.aload_n 0, 1) := by decide +kernel
theorem dX8_submit_47 : decode cX8_submit 47 = .ok (.getfield 76, 3) := by decide +kernel
theorem dX8_submit_50 : decode cX8_submit 50 = .ok (.bipush 40, 2) := by decide +kernel
theorem dX8_submit_52 : decode cX8_submit 52 = .ok (.if_icmp .lt 11, 3) := by decide +kernel
theorem dX8_submit_55 : decode cX8_submit 55 = .ok (.new 94, 3) := by decide +kernel
theorem dX8_submit_58 : decode cX8_submit 58 = .ok (.dup, 1) := by decide +kernel
theorem dX8_submit_59 : decode cX8_submit 59 = .ok (.invokespecial 96, 3) := by decide +kernel
theorem dX8_submit_62 : decode cX8_submit 62 = .ok (.athrow, 1) := by decide +kernel
theorem dX8_submit_63 : decode cX8_submit 63 = .ok (.aload_n 0, 1) := by decide +kernel
theorem dX8_submit_64 : decode cX8_submit 64 = .ok (.getfield 31, 3) := by decide +kernel
theorem dX8_submit_67 : decode cX8_submit 67 = .ok (.aload_n 0, 1) := by decide +kernel
theorem dX8_submit_68 : decode cX8_submit 68 = .ok (.getfield 76, 3) := by decide +kernel
theorem dX8_submit_71 : decode cX8_submit 71 = .ok (.aaload, 1) := by decide +kernel
theorem dX8_submit_72 : decode cX8_submit 72 = .ok (.astore 4, 2) := by decide +kernel
theorem dX8_submit_74 : decode cX8_submit 74 = .ok (.aload_n 0, 1) := by decide +kernel
theorem dX8_submit_75 : decode cX8_submit 75 = .ok (.dup, 1) := by decide +kernel
theorem dX8_submit_76 : decode cX8_submit 76 = .ok (.getfield 76, 3) := by decide +kernel
theorem dX8_submit_79 : decode cX8_submit 79 = .ok (.iconst 1, 1) := by decide +kernel
theorem dX8_submit_80 : decode cX8_submit 80 = .ok (.iadd, 1) := by decide +kernel
theorem dX8_submit_81 : decode cX8_submit 81 = .ok (.putfield 76, 3) := by decide +kernel
theorem dX8_submit_84 : decode cX8_submit 84 = .ok (.aload 4, 2) := by decide +kernel
theorem dX8_submit_86 : decode cX8_submit 86 = .ok (.iload_n 1, 1) := by decide +kernel
theorem dX8_submit_87 : decode cX8_submit 87 = .ok (.putfield 163, 3) := by decide +kernel
theorem dX8_submit_90 : decode cX8_submit 90 = .ok (.aload 4, 2) := by decide +kernel
theorem dX8_submit_92 : decode cX8_submit 92 = .ok (.iload_n 2, 1) := by decide +kernel
theorem dX8_submit_93 : decode cX8_submit 93 = .ok (.putfield 166, 3) := by decide +kernel
theorem dX8_submit_96 : decode cX8_submit 96 = .ok (.aload 4, 2) := by decide +kernel
theorem dX8_submit_98 : decode cX8_submit 98 = .ok (.iload_n 3, 1) := by decide +kernel
theorem dX8_submit_99 : decode cX8_submit 99 = .ok (.putfield 169, 3) := by decide +kernel
theorem dX8_submit_102 : decode cX8_submit 102 = .ok (.aload 4, 2) := by decide +kernel
theorem dX8_submit_104 : decode cX8_submit 104 = .ok (.iload_n 3, 1) := by decide +kernel
theorem dX8_submit_105 : decode cX8_submit 105 = .ok (.aload_n 0, 1) := by decide +kernel
theorem dX8_submit_106 : decode cX8_submit 106 = .ok (.getfield 79, 3) := by decide +kernel
theorem dX8_submit_109 : decode cX8_submit 109 = .ok (.if_icmp .lt 7, 3) := by decide +kernel
theorem dX8_submit_112 : decode cX8_submit 112 = .ok (.iconst 1, 1) := by decide +kernel
theorem dX8_submit_113 : decode cX8_submit 113 = .ok (.goto 4, 3) := by decide +kernel
theorem dX8_submit_116 : decode cX8_submit 116 = .ok (.iconst 0, 1) := by decide +kernel
theorem dX8_submit_117 : decode cX8_submit 117 = .ok (.putfield 172, 3) := by decide +kernel
theorem dX8_submit_120 : decode cX8_submit 120 = .ok (.aload 4, 2) := by decide +kernel
theorem dX8_submit_122 : decode cX8_submit 122 = .ok (.getfield 176, 3) := by decide +kernel
theorem dX8_submit_125 : decode cX8_submit 125 = .ok (.aload_n 0, 1) := by decide +kernel
theorem dX8_submit_126 : decode cX8_submit 126 = .ok (.getfield 12, 3) := by decide +kernel
theorem dX8_submit_129 : decode cX8_submit 129 = .ok (.invokevirtual 179, 3) := by decide +kernel
theorem dX8_submit_132 : decode cX8_submit 132 = .ok (.aload_n 0, 1) := by decide +kernel
theorem dX8_submit_133 : decode cX8_submit 133 = .ok (.aload 4, 2) := by decide +kernel
theorem dX8_submit_135 : decode cX8_submit 135 = .ok (.invokevirtual 182, 3) := by decide +kernel
theorem dX8_submit_138 : decode cX8_submit 138 = .ok (.aload_n 0, 1) := by decide +kernel
theorem dX8_submit_139 : decode cX8_submit 139 = .ok (.invokevirtual 154, 3) := by decide +kernel
theorem dX8_submit_142 : decode cX8_submit 142 = .ok (.aload_n 0, 1) := by decide +kernel
theorem dX8_submit_143 : decode cX8_submit 143 = .ok (.getfield 52, 3) := by decide +kernel
theorem dX8_submit_146 : decode cX8_submit 146 = .ok (.aload_n 0, 1) := by decide +kernel
theorem dX8_submit_147 : decode cX8_submit 147 = .ok (.getfield 59, 3) := by decide +kernel
theorem dX8_submit_150 : decode cX8_submit 150 = .ok (.iload_n 2, 1) := by decide +kernel
theorem dX8_submit_151 : decode cX8_submit 151 = .ok (.aload_n 0, 1) := by decide +kernel
theorem dX8_submit_152 : decode cX8_submit 152 = .ok (.getfield 25, 3) := by decide +kernel
theorem dX8_submit_155 : decode cX8_submit 155 = .ok (.iload_n 2, 1) := by decide +kernel
theorem dX8_submit_156 : decode cX8_submit 156 = .ok (.aaload, 1) := by decide +kernel
theorem dX8_submit_157 : decode cX8_submit 157 = .ok (.getfield 124, 3) := by decide +kernel
theorem dX8_submit_160 : decode cX8_submit 160 = .ok (.invokevirtual 186, 3) := by decide +kernel
theorem dX8_submit_163 : decode cX8_submit 163 = .ok (.aload_n 0, 1) := by decide +kernel
theorem dX8_submit_164 : decode cX8_submit 164 = .ok (.getfield 76, 3) := by decide +kernel
theorem dX8_submit_167 : decode cX8_submit 167 = .ok (.iconst 1, 1) := by decide +kernel
theorem dX8_submit_168 : decode cX8_submit 168 = .ok (.isub, 1) := by decide +kernel
theorem dX8_submit_169 : decode cX8_submit 169 = .ok (.ireturn, 1) := by decide +kernel
theorem dX8_verdict_0 : decode cX8_verdict 0 = .ok (.aload_n 0, 1) := by decide +kernel
theorem dX8_verdict_1 : decode cX8_verdict 1 = .ok (.iload_n 1, 1) := by decide +kernel
theorem dX8_verdict_2 : decode cX8_verdict 2 = .ok (.invokevirtual 190, 3) := by decide +kernel
theorem dX8_verdict_5 : decode cX8_verdict 5 = .ok (.ifCond .ne 11, 3) := by decide +kernel
theorem dX8_verdict_8 : decode cX8_verdict 8 = .ok (.new 133, 3) := by decide +kernel
theorem dX8_verdict_11 : decode cX8_verdict 11 = .ok (.dup, 1) := by decide +kernel
theorem dX8_verdict_12 : decode cX8_verdict 12 = .ok (.invokespecial 135, 3) := by decide +kernel
theorem dX8_verdict_15 : decode cX8_verdict 15 = .ok (.athrow, 1) := by decide +kernel
theorem dX8_verdict_16 : decode cX8_verdict 16 = .ok (.aload_n 0, 1) := by decide +kernel
theorem dX8_verdict_17 : decode cX8_verdict 17 = .ok (.getfield 31, 3) := by decide +kernel
theorem dX8_verdict_20 : decode cX8_verdict 20 = .ok (.iload_n 1, 1) := by decide +kernel
theorem dX8_verdict_21 : decode cX8_verdict 21 = .ok (.aaload, 1) := by decide +kernel
theorem dX8_verdict_22 : decode cX8_verdict 22 = .ok (.getfield 193, 3) := by decide +kernel
theorem dX8_verdict_25 : decode cX8_verdict 25 = .ok (.ireturn, 1) := by decide +kernel
theorem dX8_failed_0 : decode cX8_failed 0 = .ok (.aload_n 0, 1) := by decide +kernel
theorem dX8_failed_1 : decode cX8_failed 1 = .ok (.iload_n 1, 1) := by decide +kernel
theorem dX8_failed_2 : decode cX8_failed 2 = .ok (.invokevirtual 190, 3) := by decide +kernel
theorem dX8_failed_5 : decode cX8_failed 5 = .ok (.ifCond .ne 11, 3) := by decide +kernel
theorem dX8_failed_8 : decode cX8_failed 8 = .ok (.new 133, 3) := by decide +kernel
theorem dX8_failed_11 : decode cX8_failed 11 = .ok (.dup, 1) := by decide +kernel
theorem dX8_failed_12 : decode cX8_failed 12 = .ok (.invokespecial 135, 3) := by decide +kernel
theorem dX8_failed_15 : decode cX8_failed 15 = .ok (.athrow, 1) := by decide +kernel
theorem dX8_failed_16 : decode cX8_failed 16 = .ok (.aload_n 0, 1) := by decide +kernel
theorem dX8_failed_17 : decode cX8_failed 17 = .ok (.getfield 31, 3) := by decide +kernel
theorem dX8_failed_20 : decode cX8_failed 20 = .ok (.iload_n 1, 1) := by decide +kernel
theorem dX8_failed_21 : decode cX8_failed 21 = .ok (.aaload, 1) := by decide +kernel
theorem dX8_failed_22 : decode cX8_failed 22 = .ok (.getfield 197, 3) := by decide +kernel
theorem dX8_failed_25 : decode cX8_failed 25 = .ok (.ireturn, 1) := by decide +kernel
theorem dX8_ended_0 : decode cX8_ended 0 = .ok (.aload_n 0, 1) := by decide +kernel
theorem dX8_ended_1 : decode cX8_ended 1 = .ok (.iload_n 1, 1) := by decide +kernel
theorem dX8_ended_2 : decode cX8_ended 2 = .ok (.iload_n 2, 1) := by decide +kernel
theorem dX8_ended_3 : decode cX8_ended 3 = .ok (.invokevirtual 200, 3) := by decide +kernel
theorem dX8_ended_6 : decode cX8_ended 6 = .ok (.ifCond .ne 11, 3) := by decide +kernel
theorem dX8_ended_9 : decode cX8_ended 9 = .ok (.new 133, 3) := by decide +kernel
theorem dX8_ended_12 : decode cX8_ended 12 = .ok (.dup, 1) := by decide +kernel
theorem dX8_ended_13 : decode cX8_ended 13 = .ok (.invokespecial 135, 3) := by decide +kernel
theorem dX8_ended_16 : decode cX8_ended 16 = .ok (.athrow, 1) := by decide +kernel
theorem dX8_ended_17 : decode cX8_ended 17 = .ok (.aload_n 0, 1) := by decide +kernel
theorem dX8_ended_18 : decode cX8_ended 18 = .ok (.getfield 31, 3) := by decide +kernel
theorem dX8_ended_21 : decode cX8_ended 21 = .ok (.iload_n 1, 1) := by decide +kernel
theorem dX8_ended_22 : decode cX8_ended 22 = .ok (.aaload, 1) := by decide +kernel
theorem dX8_ended_23 : decode cX8_ended 23 = .ok (.getfield 204, 3) := by decide +kernel
theorem dX8_ended_26 : decode cX8_ended 26 = .ok (.iload_n 2, 1) := by decide +kernel
theorem dX8_ended_27 : decode cX8_ended 27 = .ok (.caload, 1) := by decide +kernel
theorem dX8_ended_28 : decode cX8_ended 28 = .ok (.ireturn, 1) := by decide +kernel
theorem dX8_steps_0 : decode cX8_steps 0 = .ok (.aload_n 0, 1) := by decide +kernel
theorem dX8_steps_1 : decode cX8_steps 1 = .ok (.iload_n 1, 1) := by decide +kernel
theorem dX8_steps_2 : decode cX8_steps 2 = .ok (.iload_n 2, 1) := by decide +kernel
theorem dX8_steps_3 : decode cX8_steps 3 = .ok (.invokevirtual 200, 3) := by decide +kernel
theorem dX8_steps_6 : decode cX8_steps 6 = .ok (.ifCond .ne 11, 3) := by decide +kernel
theorem dX8_steps_9 : decode cX8_steps 9 = .ok (.new 133, 3) := by decide +kernel
theorem dX8_steps_12 : decode cX8_steps 12 = .ok (.dup, 1) := by decide +kernel
theorem dX8_steps_13 : decode cX8_steps 13 = .ok (.invokespecial 135, 3) := by decide +kernel
theorem dX8_steps_16 : decode cX8_steps 16 = .ok (.athrow, 1) := by decide +kernel
theorem dX8_steps_17 : decode cX8_steps 17 = .ok (.aload_n 0, 1) := by decide +kernel
theorem dX8_steps_18 : decode cX8_steps 18 = .ok (.getfield 31, 3) := by decide +kernel
theorem dX8_steps_21 : decode cX8_steps 21 = .ok (.iload_n 1, 1) := by decide +kernel
theorem dX8_steps_22 : decode cX8_steps 22 = .ok (.aaload, 1) := by decide +kernel
theorem dX8_steps_23 : decode cX8_steps 23 = .ok (.getfield 208, 3) := by decide +kernel
theorem dX8_steps_26 : decode cX8_steps 26 = .ok (.iload_n 2, 1) := by decide +kernel
theorem dX8_steps_27 : decode cX8_steps 27 = .ok (.iaload, 1) := by decide +kernel
theorem dX8_steps_28 : decode cX8_steps 28 = .ok (.ireturn, 1) := by decide +kernel
theorem dX8_outputs_0 : decode cX8_outputs 0 = .ok (.aload_n 0, 1) := by decide +kernel
theorem dX8_outputs_1 : decode cX8_outputs 1 = .ok (.iload_n 1, 1) := by decide +kernel
theorem dX8_outputs_2 : decode cX8_outputs 2 = .ok (.iload_n 2, 1) := by decide +kernel
theorem dX8_outputs_3 : decode cX8_outputs 3 = .ok (.invokevirtual 200, 3) := by decide +kernel
theorem dX8_outputs_6 : decode cX8_outputs 6 = .ok (.ifCond .ne 11, 3) := by decide +kernel
theorem dX8_outputs_9 : decode cX8_outputs 9 = .ok (.new 133, 3) := by decide +kernel
theorem dX8_outputs_12 : decode cX8_outputs 12 = .ok (.dup, 1) := by decide +kernel
theorem dX8_outputs_13 : decode cX8_outputs 13 = .ok (.invokespecial 135, 3) := by decide +kernel
theorem dX8_outputs_16 : decode cX8_outputs 16 = .ok (.athrow, 1) := by decide +kernel
theorem dX8_outputs_17 : decode cX8_outputs 17 = .ok (.aload_n 0, 1) := by decide +kernel
theorem dX8_outputs_18 : decode cX8_outputs 18 = .ok (.getfield 45, 3) := by decide +kernel
theorem dX8_outputs_21 : decode cX8_outputs 21 = .ok (.aload_n 0, 1) := by decide +kernel
theorem dX8_outputs_22 : decode cX8_outputs 22 = .ok (.getfield 31, 3) := by decide +kernel
theorem dX8_outputs_25 : decode cX8_outputs 25 = .ok (.iload_n 1, 1) := by decide +kernel
theorem dX8_outputs_26 : decode cX8_outputs 26 = .ok (.aaload, 1) := by decide +kernel
theorem dX8_outputs_27 : decode cX8_outputs 27 = .ok (.getfield 212, 3) := by decide +kernel
theorem dX8_outputs_30 : decode cX8_outputs 30 = .ok (.iload_n 2, 1) := by decide +kernel
theorem dX8_outputs_31 : decode cX8_outputs 31 = .ok (.iaload, 1) := by decide +kernel
theorem dX8_outputs_32 : decode cX8_outputs 32 = .ok (.invokevirtual 215, 3) := by decide +kernel
theorem dX8_outputs_35 : decode cX8_outputs 35 = .ok (.ireturn, 1) := by decide +kernel
theorem dX8_output_0 : decode cX8_output 0 = .ok (.aload_n 0, 1) := by decide +kernel
theorem dX8_output_1 : decode cX8_output 1 = .ok (.iload_n 1, 1) := by decide +kernel
theorem dX8_output_2 : decode cX8_output 2 = .ok (.iload_n 2, 1) := by decide +kernel
theorem dX8_output_3 : decode cX8_output 3 = .ok (.invokevirtual 200, 3) := by decide +kernel
theorem dX8_output_6 : decode cX8_output 6 = .ok (.ifCond .ne 11, 3) := by decide +kernel
theorem dX8_output_9 : decode cX8_output 9 = .ok (.new 133, 3) := by decide +kernel
theorem dX8_output_12 : decode cX8_output 12 = .ok (.dup, 1) := by decide +kernel
theorem dX8_output_13 : decode cX8_output 13 = .ok (.invokespecial 135, 3) := by decide +kernel
theorem dX8_output_16 : decode cX8_output 16 = .ok (.athrow, 1) := by decide +kernel
theorem dX8_output_17 : decode cX8_output 17 = .ok (.aload_n 0, 1) := by decide +kernel
theorem dX8_output_18 : decode cX8_output 18 = .ok (.getfield 31, 3) := by decide +kernel
theorem dX8_output_21 : decode cX8_output 21 = .ok (.iload_n 1, 1) := by decide +kernel
theorem dX8_output_22 : decode cX8_output 22 = .ok (.aaload, 1) := by decide +kernel
theorem dX8_output_23 : decode cX8_output 23 = .ok (.getfield 212, 3) := by decide +kernel
theorem dX8_output_26 : decode cX8_output 26 = .ok (.iload_n 2, 1) := by decide +kernel
theorem dX8_output_27 : decode cX8_output 27 = .ok (.iaload, 1) := by decide +kernel
theorem dX8_output_28 : decode cX8_output 28 = .ok (.istore 4, 2) := by decide +kernel
theorem dX8_output_30 : decode cX8_output 30 = .ok (.iload_n 3, 1) := by decide +kernel
theorem dX8_output_31 : decode cX8_output 31 = .ok (.iconst 0, 1) := by decide +kernel
theorem dX8_output_32 : decode cX8_output 32 = .ok (.aload_n 0, 1) := by decide +kernel
theorem dX8_output_33 : decode cX8_output 33 = .ok (.getfield 45, 3) := by decide +kernel
theorem dX8_output_36 : decode cX8_output 36 = .ok (.iload 4, 2) := by decide +kernel
theorem dX8_output_38 : decode cX8_output 38 = .ok (.invokevirtual 215, 3) := by decide +kernel
theorem dX8_output_41 : decode cX8_output 41 = .ok (.iconst 1, 1) := by decide +kernel
theorem dX8_output_42 : decode cX8_output 42 = .ok (.isub, 1) := by decide +kernel
theorem dX8_output_43 : decode cX8_output 43 = .ok (.invokestatic 120, 3) := by decide +kernel
theorem dX8_output_46 : decode cX8_output 46 = .ok (.ifCond .ne 11, 3) := by decide +kernel
theorem dX8_output_49 : decode cX8_output 49 = .ok (.new 219, 3) := by decide +kernel
theorem dX8_output_52 : decode cX8_output 52 = .ok (.dup, 1) := by decide +kernel
theorem dX8_output_53 : decode cX8_output 53 = .ok (.invokespecial 221, 3) := by decide +kernel
theorem dX8_output_56 : decode cX8_output 56 = .ok (.athrow, 1) := by decide +kernel
theorem dX8_output_57 : decode cX8_output 57 = .ok (.aload_n 0, 1) := by decide +kernel
theorem dX8_output_58 : decode cX8_output 58 = .ok (.getfield 45, 3) := by decide +kernel
theorem dX8_output_61 : decode cX8_output 61 = .ok (.iload 4, 2) := by decide +kernel
theorem dX8_output_63 : decode cX8_output 63 = .ok (.iload_n 3, 1) := by decide +kernel
theorem dX8_output_64 : decode cX8_output 64 = .ok (.invokevirtual 222, 3) := by decide +kernel
theorem dX8_output_67 : decode cX8_output 67 = .ok (.ireturn, 1) := by decide +kernel
theorem dX8_kept_0 : decode cX8_kept 0 = .ok (.aload_n 0, 1) := by decide +kernel
theorem dX8_kept_1 : decode cX8_kept 1 = .ok (.getfield 45, 3) := by decide +kernel
theorem dX8_kept_4 : decode cX8_kept 4 = .ok (.getfield 225, 3) := by decide +kernel
theorem dX8_kept_7 : decode cX8_kept 7 = .ok (.ireturn, 1) := by decide +kernel
theorem dX8_sharing_0 : decode cX8_sharing 0 = .ok (.aload_n 0, 1) := by decide +kernel
theorem dX8_sharing_1 : decode cX8_sharing 1 = .ok (.iload_n 1, 1) := by decide +kernel
theorem dX8_sharing_2 : decode cX8_sharing 2 = .ok (.iload_n 2, 1) := by decide +kernel
theorem dX8_sharing_3 : decode cX8_sharing 3 = .ok (.invokevirtual 200, 3) := by decide +kernel
theorem dX8_sharing_6 : decode cX8_sharing 6 = .ok (.ifCond .ne 11, 3) := by decide +kernel
theorem dX8_sharing_9 : decode cX8_sharing 9 = .ok (.new 133, 3) := by decide +kernel
theorem dX8_sharing_12 : decode cX8_sharing 12 = .ok (.dup, 1) := by decide +kernel
theorem dX8_sharing_13 : decode cX8_sharing 13 = .ok (.invokespecial 135, 3) := by decide +kernel
theorem dX8_sharing_16 : decode cX8_sharing 16 = .ok (.athrow, 1) := by decide +kernel
theorem dX8_sharing_17 : decode cX8_sharing 17 = .ok (.aload_n 0, 1) := by decide +kernel
theorem dX8_sharing_18 : decode cX8_sharing 18 = .ok (.getfield 45, 3) := by decide +kernel
theorem dX8_sharing_21 : decode cX8_sharing 21 = .ok (.aload_n 0, 1) := by decide +kernel
theorem dX8_sharing_22 : decode cX8_sharing 22 = .ok (.getfield 31, 3) := by decide +kernel
theorem dX8_sharing_25 : decode cX8_sharing 25 = .ok (.iload_n 1, 1) := by decide +kernel
theorem dX8_sharing_26 : decode cX8_sharing 26 = .ok (.aaload, 1) := by decide +kernel
theorem dX8_sharing_27 : decode cX8_sharing 27 = .ok (.getfield 212, 3) := by decide +kernel
theorem dX8_sharing_30 : decode cX8_sharing 30 = .ok (.iload_n 2, 1) := by decide +kernel
theorem dX8_sharing_31 : decode cX8_sharing 31 = .ok (.iaload, 1) := by decide +kernel
theorem dX8_sharing_32 : decode cX8_sharing 32 = .ok (.invokevirtual 228, 3) := by decide +kernel
theorem dX8_sharing_35 : decode cX8_sharing 35 = .ok (.ireturn, 1) := by decide +kernel
theorem dX8_stock_0 : decode cX8_stock 0 = .ok (.iload_n 1, 1) := by decide +kernel
theorem dX8_stock_1 : decode cX8_stock 1 = .ok (.invokestatic 117, 3) := by decide +kernel
theorem dX8_stock_4 : decode cX8_stock 4 = .ok (.ifCond .eq 13, 3) := by decide +kernel
theorem dX8_stock_7 : decode cX8_stock 7 = .ok (.iload_n 2, 1) := by decide +kernel
theorem dX8_stock_8 : decode cX8_stock 8 = .ok (.iconst 1, 1) := by decide +kernel
theorem dX8_stock_9 : decode cX8_stock 9 = .ok (.bipush 20, 2) := by decide +kernel
theorem dX8_stock_11 : decode cX8_stock 11 = .ok (.invokestatic 120, 3) := by decide +kernel
theorem dX8_stock_14 : decode cX8_stock 14 = .ok (.ifCond .ne 11, 3) := by decide +kernel
theorem dX8_stock_17 : decode cX8_stock 17 = .ok (.new 88, 3) := by decide +kernel
theorem dX8_stock_20 : decode cX8_stock 20 = .ok (.dup, 1) := by decide +kernel
theorem dX8_stock_21 : decode cX8_stock 21 = .ok (.invokespecial 90, 3) := by decide +kernel
theorem dX8_stock_24 : decode cX8_stock 24 = .ok (.athrow, 1) := by decide +kernel
theorem dX8_stock_25 : decode cX8_stock 25 = .ok (.aload_n 0, 1) := by decide +kernel
theorem dX8_stock_26 : decode cX8_stock 26 = .ok (.getfield 52, 3) := by decide +kernel
theorem dX8_stock_29 : decode cX8_stock 29 = .ok (.getfield 231, 3) := by decide +kernel
theorem dX8_stock_32 : decode cX8_stock 32 = .ok (.iload_n 1, 1) := by decide +kernel
theorem dX8_stock_33 : decode cX8_stock 33 = .ok (.dup2, 1) := by decide +kernel
theorem dX8_stock_34 : decode cX8_stock 34 = .ok (.iaload, 1) := by decide +kernel
theorem dX8_stock_35 : decode cX8_stock 35 = .ok (.iload_n 2, 1) := by decide +kernel
theorem dX8_stock_36 : decode cX8_stock 36 = .ok (.iadd, 1) := by decide +kernel
theorem dX8_stock_37 : decode cX8_stock 37 = .ok (.iastore, 1) := by decide +kernel
theorem dX8_stock_38 : decode cX8_stock 38 = .ok (.aload_n 0, 1) := by decide +kernel
theorem dX8_stock_39 : decode cX8_stock 39 = .ok (.getfield 52, 3) := by decide +kernel
theorem dX8_stock_42 : decode cX8_stock 42 = .ok (.iload_n 1, 1) := by decide +kernel
theorem dX8_stock_43 : decode cX8_stock 43 = .ok (.invokevirtual 234, 3) := by decide +kernel
theorem dX8_stock_46 : decode cX8_stock 46 = .ok (.aload_n 0, 1) := by decide +kernel
theorem dX8_stock_47 : decode cX8_stock 47 = .ok (.getfield 52, 3) := by decide +kernel
theorem dX8_stock_50 : decode cX8_stock 50 = .ok (.getfield 231, 3) := by decide +kernel
theorem dX8_stock_53 : decode cX8_stock 53 = .ok (.iload_n 1, 1) := by decide +kernel
theorem dX8_stock_54 : decode cX8_stock 54 = .ok (.iaload, 1) := by decide +kernel
theorem dX8_stock_55 : decode cX8_stock 55 = .ok (.ireturn, 1) := by decide +kernel
theorem dX8_inStock_0 : decode cX8_inStock 0 = .ok (.iload_n 1, 1) := by decide +kernel
theorem dX8_inStock_1 : decode cX8_inStock 1 = .ok (.invokestatic 117, 3) := by decide +kernel
theorem dX8_inStock_4 : decode cX8_inStock 4 = .ok (.ifCond .ne 11, 3) := by decide +kernel
theorem dX8_inStock_7 : decode cX8_inStock 7 = .ok (.new 88, 3) := by decide +kernel
theorem dX8_inStock_10 : decode cX8_inStock 10 = .ok (.dup, 1) := by decide +kernel
theorem dX8_inStock_11 : decode cX8_inStock 11 = .ok (.invokespecial 90, 3) := by decide +kernel
theorem dX8_inStock_14 : decode cX8_inStock 14 = .ok (.athrow, 1) := by decide +kernel
theorem dX8_inStock_15 : decode cX8_inStock 15 = .ok (.aload_n 0, 1) := by decide +kernel
theorem dX8_inStock_16 : decode cX8_inStock 16 = .ok (.getfield 52, 3) := by decide +kernel
theorem dX8_inStock_19 : decode cX8_inStock 19 = .ok (.getfield 231, 3) := by decide +kernel
theorem dX8_inStock_22 : decode cX8_inStock 22 = .ok (.iload_n 1, 1) := by decide +kernel
theorem dX8_inStock_23 : decode cX8_inStock 23 = .ok (.iaload, 1) := by decide +kernel
theorem dX8_inStock_24 : decode cX8_inStock 24 = .ok (.ireturn, 1) := by decide +kernel
theorem dX8_out_0 : decode cX8_out 0 = .ok (.iload_n 1, 1) := by decide +kernel
theorem dX8_out_1 : decode cX8_out 1 = .ok (.invokestatic 117, 3) := by decide +kernel
theorem dX8_out_4 : decode cX8_out 4 = .ok (.ifCond .ne 11, 3) := by decide +kernel
theorem dX8_out_7 : decode cX8_out 7 = .ok (.new 88, 3) := by decide +kernel
theorem dX8_out_10 : decode cX8_out 10 = .ok (.dup, 1) := by decide +kernel
theorem dX8_out_11 : decode cX8_out 11 = .ok (.invokespecial 90, 3) := by decide +kernel
theorem dX8_out_14 : decode cX8_out 14 = .ok (.athrow, 1) := by decide +kernel
theorem dX8_out_15 : decode cX8_out 15 = .ok (.aload_n 0, 1) := by decide +kernel
theorem dX8_out_16 : decode cX8_out 16 = .ok (.getfield 52, 3) := by decide +kernel
theorem dX8_out_19 : decode cX8_out 19 = .ok (.getfield 238, 3) := by decide +kernel
theorem dX8_out_22 : decode cX8_out 22 = .ok (.iload_n 1, 1) := by decide +kernel
theorem dX8_out_23 : decode cX8_out 23 = .ok (.iaload, 1) := by decide +kernel
theorem dX8_out_24 : decode cX8_out 24 = .ok (.ireturn, 1) := by decide +kernel
theorem dX8_balloon_0 : decode cX8_balloon 0 = .ok (.aload_n 0, 1) := by decide +kernel
theorem dX8_balloon_1 : decode cX8_balloon 1 = .ok (.iload_n 1, 1) := by decide +kernel
theorem dX8_balloon_2 : decode cX8_balloon 2 = .ok (.invokevirtual 157, 3) := by decide +kernel
theorem dX8_balloon_5 : decode cX8_balloon 5 = .ok (.ifCond .eq 11, 3) := by decide +kernel
theorem dX8_balloon_8 : decode cX8_balloon 8 = .ok (.aload_n 0, 1) := by decide +kernel
theorem dX8_balloon_9 : decode cX8_balloon 9 = .ok (.iload_n 2, 1) := by decide +kernel
theorem dX8_balloon_10 : decode cX8_balloon 10 = .ok (.invokevirtual 130, 3) := by decide +kernel
theorem dX8_balloon_13 : decode cX8_balloon 13 = .ok (.ifCond .ne 11, 3) := by decide +kernel
theorem dX8_balloon_16 : decode cX8_balloon 16 = .ok (.new 133, 3) := by decide +kernel
theorem dX8_balloon_19 : decode cX8_balloon 19 = .ok (.dup, 1) := by decide +kernel
theorem dX8_balloon_20 : decode cX8_balloon 20 = .ok (.invokespecial 135, 3) := by decide +kernel
theorem dX8_balloon_23 : decode cX8_balloon 23 = .ok (.athrow, 1) := by decide +kernel
theorem dX8_balloon_24 : decode cX8_balloon 24 = .ok (.aload_n 0, 1) := by decide +kernel
theorem dX8_balloon_25 : decode cX8_balloon 25 = .ok (.getfield 52, 3) := by decide +kernel
theorem dX8_balloon_28 : decode cX8_balloon 28 = .ok (.getfield 241, 3) := by decide +kernel
theorem dX8_balloon_31 : decode cX8_balloon 31 = .ok (.iload_n 1, 1) := by decide +kernel
theorem dX8_balloon_32 : decode cX8_balloon 32 = .ok (.iload_n 2, 1) := by decide +kernel
theorem dX8_balloon_33 : decode cX8_balloon 33 = .ok (.invokestatic 244, 3) := by decide +kernel
theorem dX8_balloon_36 : decode cX8_balloon 36 = .ok (.caload, 1) := by decide +kernel
theorem dX8_balloon_37 : decode cX8_balloon 37 = .ok (.ireturn, 1) := by decide +kernel
theorem dX8_waiting_0 : decode cX8_waiting 0 = .ok (.iload_n 1, 1) := by decide +kernel
theorem dX8_waiting_1 : decode cX8_waiting 1 = .ok (.invokestatic 117, 3) := by decide +kernel
theorem dX8_waiting_4 : decode cX8_waiting 4 = .ok (.ifCond .ne 11, 3) := by decide +kernel
theorem dX8_waiting_7 : decode cX8_waiting 7 = .ok (.new 88, 3) := by decide +kernel
theorem dX8_waiting_10 : decode cX8_waiting 10 = .ok (.dup, 1) := by decide +kernel
theorem dX8_waiting_11 : decode cX8_waiting 11 = .ok (.invokespecial 90, 3) := by decide +kernel
theorem dX8_waiting_14 : decode cX8_waiting 14 = .ok (.athrow, 1) := by decide +kernel
theorem dX8_waiting_15 : decode cX8_waiting 15 = .ok (.iload_n 2, 1) := by decide +kernel
theorem dX8_waiting_16 : decode cX8_waiting 16 = .ok (.iconst 0, 1) := by decide +kernel
theorem dX8_waiting_17 : decode cX8_waiting 17 = .ok (.aload_n 0, 1) := by decide +kernel
theorem dX8_waiting_18 : decode cX8_waiting 18 = .ok (.getfield 52, 3) := by decide +kernel
theorem dX8_waiting_21 : decode cX8_waiting 21 = .ok (.getfield 247, 3) := by decide +kernel
theorem dX8_waiting_24 : decode cX8_waiting 24 = .ok (.iload_n 1, 1) := by decide +kernel
theorem dX8_waiting_25 : decode cX8_waiting 25 = .ok (.iaload, 1) := by decide +kernel
theorem dX8_waiting_26 : decode cX8_waiting 26 = .ok (.iconst 1, 1) := by decide +kernel
theorem dX8_waiting_27 : decode cX8_waiting 27 = .ok (.isub, 1) := by decide +kernel
theorem dX8_waiting_28 : decode cX8_waiting 28 = .ok (.invokestatic 120, 3) := by decide +kernel
theorem dX8_waiting_31 : decode cX8_waiting 31 = .ok (.ifCond .ne 11, 3) := by decide +kernel
theorem dX8_waiting_34 : decode cX8_waiting 34 = .ok (.new 219, 3) := by decide +kernel
theorem dX8_waiting_37 : decode cX8_waiting 37 = .ok (.dup, 1) := by decide +kernel
theorem dX8_waiting_38 : decode cX8_waiting 38 = .ok (.invokespecial 221, 3) := by decide +kernel
theorem dX8_waiting_41 : decode cX8_waiting 41 = .ok (.athrow, 1) := by decide +kernel
theorem dX8_waiting_42 : decode cX8_waiting 42 = .ok (.aload_n 0, 1) := by decide +kernel
theorem dX8_waiting_43 : decode cX8_waiting 43 = .ok (.getfield 52, 3) := by decide +kernel
theorem dX8_waiting_46 : decode cX8_waiting 46 = .ok (.getfield 250, 3) := by decide +kernel
theorem dX8_waiting_49 : decode cX8_waiting 49 = .ok (.iload_n 1, 1) := by decide +kernel
theorem dX8_waiting_50 : decode cX8_waiting 50 = .ok (.aaload, 1) := by decide +kernel
theorem dX8_waiting_51 : decode cX8_waiting 51 = .ok (.iload_n 2, 1) := by decide +kernel
theorem dX8_waiting_52 : decode cX8_waiting 52 = .ok (.iaload, 1) := by decide +kernel
theorem dX8_waiting_53 : decode cX8_waiting 53 = .ok (.invokestatic 254, 3) := by decide +kernel
theorem dX8_waiting_56 : decode cX8_waiting 56 = .ok (.ireturn, 1) := by decide +kernel
theorem dX8_calledBack_0 : decode cX8_calledBack 0 = .ok (.aload_n 0, 1) := by decide +kernel
theorem dX8_calledBack_1 : decode cX8_calledBack 1 = .ok (.getfield 52, 3) := by decide +kernel
theorem dX8_calledBack_4 : decode cX8_calledBack 4 = .ok (.getfield 257, 3) := by decide +kernel
theorem dX8_calledBack_7 : decode cX8_calledBack 7 = .ok (.ireturn, 1) := by decide +kernel
theorem dX8_freeze_0 : decode cX8_freeze 0 = .ok (.iload_n 1, 1) := by decide +kernel
theorem dX8_freeze_1 : decode cX8_freeze 1 = .ok (.iconst 0, 1) := by decide +kernel
theorem dX8_freeze_2 : decode cX8_freeze 2 = .ok (.sipush 999, 3) := by decide +kernel
theorem dX8_freeze_5 : decode cX8_freeze 5 = .ok (.invokestatic 120, 3) := by decide +kernel
theorem dX8_freeze_8 : decode cX8_freeze 8 = .ok (.ifCond .ne 11, 3) := by decide +kernel
theorem dX8_freeze_11 : decode cX8_freeze 11 = .ok (.new 88, 3) := by decide +kernel
theorem dX8_freeze_14 : decode cX8_freeze 14 = .ok (.dup, 1) := by decide +kernel
theorem dX8_freeze_15 : decode cX8_freeze 15 = .ok (.invokespecial 90, 3) := by decide +kernel
theorem dX8_freeze_18 : decode cX8_freeze 18 = .ok (.athrow, 1) := by decide +kernel
theorem dX8_freeze_19 : decode cX8_freeze 19 = .ok (.aload_n 0, 1) := by decide +kernel
theorem dX8_freeze_20 : decode cX8_freeze 20 = .ok (.getfield 79, 3) := by decide +kernel
theorem dX8_freeze_23 : decode cX8_freeze 23 = .ok (.sipush 1000, 3) := by decide +kernel
theorem dX8_freeze_26 : decode cX8_freeze 26 = .ok (.if_icmp .eq 11, 3) := by decide +kernel
theorem dX8_freeze_29 : decode cX8_freeze 29 = .ok (.new 260, 3) := by decide +kernel
theorem dX8_freeze_32 : decode cX8_freeze 32 = .ok (.dup, 1) := by decide +kernel
theorem dX8_freeze_33 : decode cX8_freeze 33 = .ok (.invokespecial 262, 3) := by decide +kernel
theorem dX8_freeze_36 : decode cX8_freeze 36 = .ok (.athrow, 1) := by decide +kernel
theorem dX8_freeze_37 : decode cX8_freeze 37 = .ok (.aload_n 0, 1) := by decide +kernel
theorem dX8_freeze_38 : decode cX8_freeze 38 = .ok (.iload_n 1, 1) := by decide +kernel
theorem dX8_freeze_39 : decode cX8_freeze 39 = .ok (.putfield 79, 3) := by decide +kernel
theorem dX8_freeze_42 : decode cX8_freeze 42 = .ok (.iconst 0, 1) := by decide +kernel
theorem dX8_freeze_43 : decode cX8_freeze 43 = .ok (.istore_n 2, 1) := by decide +kernel
theorem dX8_freeze_44 : decode cX8_freeze 44 = .ok (.iconst 0, 1) := by decide +kernel
theorem dX8_freeze_45 : decode cX8_freeze 45 = .ok (.istore_n 3, 1) := by decide +kernel
theorem dX8_freeze_46 : decode cX8_freeze 46 = .ok (.iload_n 3, 1) := by decide +kernel
theorem dX8_freeze_47 : decode cX8_freeze 47 = .ok (.aload_n 0, 1) := by decide +kernel
theorem dX8_freeze_48 : decode cX8_freeze 48 = .ok (.getfield 76, 3) := by decide +kernel
theorem dX8_freeze_51 : decode cX8_freeze 51 = .ok (.if_icmp .ge 56, 3) := by decide +kernel
theorem dX8_freeze_54 : decode cX8_freeze 54 = .ok (.aload_n 0, 1) := by decide +kernel
theorem dX8_freeze_55 : decode cX8_freeze 55 = .ok (.getfield 31, 3) := by decide +kernel
theorem dX8_freeze_58 : decode cX8_freeze 58 = .ok (.iload_n 3, 1) := by decide +kernel
theorem dX8_freeze_59 : decode cX8_freeze 59 = .ok (.aaload, 1) := by decide +kernel
theorem dX8_freeze_60 : decode cX8_freeze 60 = .ok (.aload_n 0, 1) := by decide +kernel
theorem dX8_freeze_61 : decode cX8_freeze 61 = .ok (.getfield 31, 3) := by decide +kernel
theorem dX8_freeze_64 : decode cX8_freeze 64 = .ok (.iload_n 3, 1) := by decide +kernel
theorem dX8_freeze_65 : decode cX8_freeze 65 = .ok (.aaload, 1) := by decide +kernel
theorem dX8_freeze_66 : decode cX8_freeze 66 = .ok (.getfield 169, 3) := by decide +kernel
theorem dX8_freeze_69 : decode cX8_freeze 69 = .ok (.iload_n 1, 1) := by decide +kernel
theorem dX8_freeze_70 : decode cX8_freeze 70 = .ok (.if_icmp .lt 7, 3) := by decide +kernel
theorem dX8_freeze_73 : decode cX8_freeze 73 = .ok (.iconst 1, 1) := by decide +kernel
theorem dX8_freeze_74 : decode cX8_freeze 74 = .ok (.goto 4, 3) := by decide +kernel
theorem dX8_freeze_77 : decode cX8_freeze 77 = .ok (.iconst 0, 1) := by decide +kernel
theorem dX8_freeze_78 : decode cX8_freeze 78 = .ok (.putfield 172, 3) := by decide +kernel
theorem dX8_freeze_81 : decode cX8_freeze 81 = .ok (.iload_n 2, 1) := by decide +kernel
theorem dX8_freeze_82 : decode cX8_freeze 82 = .ok (.aload_n 0, 1) := by decide +kernel
theorem dX8_freeze_83 : decode cX8_freeze 83 = .ok (.getfield 31, 3) := by decide +kernel
theorem dX8_freeze_86 : decode cX8_freeze 86 = .ok (.iload_n 3, 1) := by decide +kernel
theorem dX8_freeze_87 : decode cX8_freeze 87 = .ok (.aaload, 1) := by decide +kernel
theorem dX8_freeze_88 : decode cX8_freeze 88 = .ok (.getfield 172, 3) := by decide +kernel
theorem dX8_freeze_91 : decode cX8_freeze 91 = .ok (.ifCond .eq 7, 3) := by decide +kernel
theorem dX8_freeze_94 : decode cX8_freeze 94 = .ok (.iconst 1, 1) := by decide +kernel
theorem dX8_freeze_95 : decode cX8_freeze 95 = .ok (.goto 4, 3) := by decide +kernel
theorem dX8_freeze_98 : decode cX8_freeze 98 = .ok (.iconst 0, 1) := by decide +kernel
theorem dX8_freeze_99 : decode cX8_freeze 99 = .ok (.iadd, 1) := by decide +kernel
theorem dX8_freeze_100 : decode cX8_freeze 100 = .ok (.istore_n 2, 1) := by decide +kernel
theorem dX8_freeze_101 : decode cX8_freeze 101 = .ok (.iinc 3 1, 3) := by decide +kernel
theorem dX8_freeze_104 : decode cX8_freeze 104 = .ok (.goto (-58), 3) := by decide +kernel
theorem dX8_freeze_107 : decode cX8_freeze 107 = .ok (.aload_n 0, 1) := by decide +kernel
theorem dX8_freeze_108 : decode cX8_freeze 108 = .ok (.invokevirtual 154, 3) := by decide +kernel
theorem dX8_freeze_111 : decode cX8_freeze 111 = .ok (.iload_n 2, 1) := by decide +kernel
theorem dX8_freeze_112 : decode cX8_freeze 112 = .ok (.ireturn, 1) := by decide +kernel
theorem dX8_pending_0 : decode cX8_pending 0 = .ok (.aload_n 0, 1) := by decide +kernel
theorem dX8_pending_1 : decode cX8_pending 1 = .ok (.iload_n 1, 1) := by decide +kernel
theorem dX8_pending_2 : decode cX8_pending 2 = .ok (.invokevirtual 157, 3) := by decide +kernel
theorem dX8_pending_5 : decode cX8_pending 5 = .ok (.ifCond .eq 11, 3) := by decide +kernel
theorem dX8_pending_8 : decode cX8_pending 8 = .ok (.aload_n 0, 1) := by decide +kernel
theorem dX8_pending_9 : decode cX8_pending 9 = .ok (.iload_n 2, 1) := by decide +kernel
theorem dX8_pending_10 : decode cX8_pending 10 = .ok (.invokevirtual 130, 3) := by decide +kernel
theorem dX8_pending_13 : decode cX8_pending 13 = .ok (.ifCond .ne 11, 3) := by decide +kernel
theorem dX8_pending_16 : decode cX8_pending 16 = .ok (.new 133, 3) := by decide +kernel
theorem dX8_pending_19 : decode cX8_pending 19 = .ok (.dup, 1) := by decide +kernel
theorem dX8_pending_20 : decode cX8_pending 20 = .ok (.invokespecial 135, 3) := by decide +kernel
theorem dX8_pending_23 : decode cX8_pending 23 = .ok (.athrow, 1) := by decide +kernel
theorem dX8_pending_24 : decode cX8_pending 24 = .ok (.aload_n 0, 1) := by decide +kernel
theorem dX8_pending_25 : decode cX8_pending 25 = .ok (.iload_n 1, 1) := by decide +kernel
theorem dX8_pending_26 : decode cX8_pending 26 = .ok (.iload_n 2, 1) := by decide +kernel
theorem dX8_pending_27 : decode cX8_pending 27 = .ok (.invokevirtual 263, 3) := by decide +kernel
theorem dX8_pending_30 : decode cX8_pending 30 = .ok (.ireturn, 1) := by decide +kernel
theorem dX8_open_0 : decode cX8_open 0 = .ok (.aload_n 0, 1) := by decide +kernel
theorem dX8_open_1 : decode cX8_open 1 = .ok (.invokevirtual 266, 3) := by decide +kernel
theorem dX8_open_4 : decode cX8_open 4 = .ok (.istore_n 1, 1) := by decide +kernel
theorem dX8_open_5 : decode cX8_open 5 = .ok (.iload_n 1, 1) := by decide +kernel
theorem dX8_open_6 : decode cX8_open 6 = .ok (.iconst (-1), 1) := by decide +kernel
theorem dX8_open_7 : decode cX8_open 7 = .ok (.if_icmp .ne 11, 3) := by decide +kernel
theorem dX8_open_10 : decode cX8_open 10 = .ok (.new 219, 3) := by decide +kernel
theorem dX8_open_13 : decode cX8_open 13 = .ok (.dup, 1) := by decide +kernel
theorem dX8_open_14 : decode cX8_open 14 = .ok (.invokespecial 221, 3) := by decide +kernel
theorem dX8_open_17 : decode cX8_open 17 = .ok (.athrow, 1) := by decide +kernel
theorem dX8_open_18 : decode cX8_open 18 = .ok (.aload_n 0, 1) := by decide +kernel
theorem dX8_open_19 : decode cX8_open 19 = .ok (.iload_n 1, 1) := by decide +kernel
theorem dX8_open_20 : decode cX8_open 20 = .ok (.aload_n 0, 1) := by decide +kernel
theorem dX8_open_21 : decode cX8_open 21 = .ok (.iload_n 1, 1) := by decide +kernel
theorem dX8_open_22 : decode cX8_open 22 = .ok (.invokevirtual 269, 3) := by decide +kernel
theorem dX8_open_25 : decode cX8_open 25 = .ok (.invokevirtual 272, 3) := by decide +kernel
theorem dX8_open_28 : decode cX8_open 28 = .ok (.aload_n 0, 1) := by decide +kernel
theorem dX8_open_29 : decode cX8_open 29 = .ok (.invokevirtual 154, 3) := by decide +kernel
theorem dX8_open_32 : decode cX8_open 32 = .ok (.iload_n 1, 1) := by decide +kernel
theorem dX8_open_33 : decode cX8_open 33 = .ok (.ireturn, 1) := by decide +kernel
theorem dX8_solved_0 : decode cX8_solved 0 = .ok (.aload_n 0, 1) := by decide +kernel
theorem dX8_solved_1 : decode cX8_solved 1 = .ok (.iload_n 1, 1) := by decide +kernel
theorem dX8_solved_2 : decode cX8_solved 2 = .ok (.invokevirtual 157, 3) := by decide +kernel
theorem dX8_solved_5 : decode cX8_solved 5 = .ok (.ifCond .ne 11, 3) := by decide +kernel
theorem dX8_solved_8 : decode cX8_solved 8 = .ok (.new 133, 3) := by decide +kernel
theorem dX8_solved_11 : decode cX8_solved 11 = .ok (.dup, 1) := by decide +kernel
theorem dX8_solved_12 : decode cX8_solved 12 = .ok (.invokespecial 135, 3) := by decide +kernel
theorem dX8_solved_15 : decode cX8_solved 15 = .ok (.athrow, 1) := by decide +kernel
theorem dX8_solved_16 : decode cX8_solved 16 = .ok (.aload_n 0, 1) := by decide +kernel
theorem dX8_solved_17 : decode cX8_solved 17 = .ok (.iload_n 2, 1) := by decide +kernel
theorem dX8_solved_18 : decode cX8_solved 18 = .ok (.invokevirtual 276, 3) := by decide +kernel
theorem dX8_solved_21 : decode cX8_solved 21 = .ok (.getfield 280, 3) := by decide +kernel
theorem dX8_solved_24 : decode cX8_solved 24 = .ok (.iload_n 1, 1) := by decide +kernel
theorem dX8_solved_25 : decode cX8_solved 25 = .ok (.iaload, 1) := by decide +kernel
theorem dX8_solved_26 : decode cX8_solved 26 = .ok (.ireturn, 1) := by decide +kernel
theorem dX8_penalty_0 : decode cX8_penalty 0 = .ok (.aload_n 0, 1) := by decide +kernel
theorem dX8_penalty_1 : decode cX8_penalty 1 = .ok (.iload_n 1, 1) := by decide +kernel
theorem dX8_penalty_2 : decode cX8_penalty 2 = .ok (.invokevirtual 157, 3) := by decide +kernel
theorem dX8_penalty_5 : decode cX8_penalty 5 = .ok (.ifCond .ne 11, 3) := by decide +kernel
theorem dX8_penalty_8 : decode cX8_penalty 8 = .ok (.new 133, 3) := by decide +kernel
theorem dX8_penalty_11 : decode cX8_penalty 11 = .ok (.dup, 1) := by decide +kernel
theorem dX8_penalty_12 : decode cX8_penalty 12 = .ok (.invokespecial 135, 3) := by decide +kernel
theorem dX8_penalty_15 : decode cX8_penalty 15 = .ok (.athrow, 1) := by decide +kernel
theorem dX8_penalty_16 : decode cX8_penalty 16 = .ok (.aload_n 0, 1) := by decide +kernel
theorem dX8_penalty_17 : decode cX8_penalty 17 = .ok (.iload_n 2, 1) := by decide +kernel
theorem dX8_penalty_18 : decode cX8_penalty 18 = .ok (.invokevirtual 276, 3) := by decide +kernel
theorem dX8_penalty_21 : decode cX8_penalty 21 = .ok (.getfield 283, 3) := by decide +kernel
theorem dX8_penalty_24 : decode cX8_penalty 24 = .ok (.iload_n 1, 1) := by decide +kernel
theorem dX8_penalty_25 : decode cX8_penalty 25 = .ok (.iaload, 1) := by decide +kernel
theorem dX8_penalty_26 : decode cX8_penalty 26 = .ok (.ireturn, 1) := by decide +kernel
theorem dX8_rank_0 : decode cX8_rank 0 = .ok (.aload_n 0, 1) := by decide +kernel
theorem dX8_rank_1 : decode cX8_rank 1 = .ok (.iload_n 1, 1) := by decide +kernel
theorem dX8_rank_2 : decode cX8_rank 2 = .ok (.invokevirtual 157, 3) := by decide +kernel
theorem dX8_rank_5 : decode cX8_rank 5 = .ok (.ifCond .ne 11, 3) := by decide +kernel
theorem dX8_rank_8 : decode cX8_rank 8 = .ok (.new 133, 3) := by decide +kernel
theorem dX8_rank_11 : decode cX8_rank 11 = .ok (.dup, 1) := by decide +kernel
theorem dX8_rank_12 : decode cX8_rank 12 = .ok (.invokespecial 135, 3) := by decide +kernel
theorem dX8_rank_15 : decode cX8_rank 15 = .ok (.athrow, 1) := by decide +kernel
theorem dX8_rank_16 : decode cX8_rank 16 = .ok (.aload_n 0, 1) := by decide +kernel
theorem dX8_rank_17 : decode cX8_rank 17 = .ok (.iload_n 2, 1) := by decide +kernel
theorem dX8_rank_18 : decode cX8_rank 18 = .ok (.invokevirtual 276, 3) := by decide +kernel
theorem dX8_rank_21 : decode cX8_rank 21 = .ok (.iload_n 1, 1) := by decide +kernel
theorem dX8_rank_22 : decode cX8_rank 22 = .ok (.invokevirtual 286, 3) := by decide +kernel
theorem dX8_rank_25 : decode cX8_rank 25 = .ok (.ireturn, 1) := by decide +kernel
theorem dX8_ranked_0 : decode cX8_ranked 0 = .ok (.iload_n 1, 1) := by decide +kernel
theorem dX8_ranked_1 : decode cX8_ranked 1 = .ok (.iconst 1, 1) := by decide +kernel
theorem dX8_ranked_2 : decode cX8_ranked 2 = .ok (.aload_n 0, 1) := by decide +kernel
theorem dX8_ranked_3 : decode cX8_ranked 3 = .ok (.getfield 73, 3) := by decide +kernel
theorem dX8_ranked_6 : decode cX8_ranked 6 = .ok (.invokestatic 120, 3) := by decide +kernel
theorem dX8_ranked_9 : decode cX8_ranked 9 = .ok (.ifCond .ne 11, 3) := by decide +kernel
theorem dX8_ranked_12 : decode cX8_ranked 12 = .ok (.new 219, 3) := by decide +kernel
theorem dX8_ranked_15 : decode cX8_ranked 15 = .ok (.dup, 1) := by decide +kernel
theorem dX8_ranked_16 : decode cX8_ranked 16 = .ok (.invokespecial 221, 3) := by decide +kernel
theorem dX8_ranked_19 : decode cX8_ranked 19 = .ok (.athrow, 1) := by decide +kernel
theorem dX8_ranked_20 : decode cX8_ranked 20 = .ok (.aload_n 0, 1) := by decide +kernel
theorem dX8_ranked_21 : decode cX8_ranked 21 = .ok (.iload_n 2, 1) := by decide +kernel
theorem dX8_ranked_22 : decode cX8_ranked 22 = .ok (.invokevirtual 276, 3) := by decide +kernel
theorem dX8_ranked_25 : decode cX8_ranked 25 = .ok (.getfield 289, 3) := by decide +kernel
theorem dX8_ranked_28 : decode cX8_ranked 28 = .ok (.iload_n 1, 1) := by decide +kernel
theorem dX8_ranked_29 : decode cX8_ranked 29 = .ok (.iconst 1, 1) := by decide +kernel
theorem dX8_ranked_30 : decode cX8_ranked 30 = .ok (.isub, 1) := by decide +kernel
theorem dX8_ranked_31 : decode cX8_ranked 31 = .ok (.iaload, 1) := by decide +kernel
theorem dX8_ranked_32 : decode cX8_ranked 32 = .ok (.ireturn, 1) := by decide +kernel
theorem dX8_acceptedShare_0 : decode cX8_acceptedShare 0 = .ok (.aload_n 0, 1) := by decide +kernel
theorem dX8_acceptedShare_1 : decode cX8_acceptedShare 1 = .ok (.getfield 76, 3) := by decide +kernel
theorem dX8_acceptedShare_4 : decode cX8_acceptedShare 4 = .ok (.ifCond .ne 11, 3) := by decide +kernel
theorem dX8_acceptedShare_7 : decode cX8_acceptedShare 7 = .ok (.new 292, 3) := by decide +kernel
theorem dX8_acceptedShare_10 : decode cX8_acceptedShare 10 = .ok (.dup, 1) := by decide +kernel
theorem dX8_acceptedShare_11 : decode cX8_acceptedShare 11 = .ok (.invokespecial 294, 3) := by decide +kernel
theorem dX8_acceptedShare_14 : decode cX8_acceptedShare 14 = .ok (.athrow, 1) := by decide +kernel
theorem dX8_acceptedShare_15 : decode cX8_acceptedShare 15 = .ok (.iconst 0, 1) := by decide +kernel
theorem dX8_acceptedShare_16 : decode cX8_acceptedShare 16 = .ok (.istore_n 1, 1) := by decide +kernel
theorem dX8_acceptedShare_17 : decode cX8_acceptedShare 17 = .ok (.iconst 0, 1) := by decide +kernel
theorem dX8_acceptedShare_18 : decode cX8_acceptedShare 18 = .ok (.istore_n 2, 1) := by decide +kernel
theorem dX8_acceptedShare_19 : decode cX8_acceptedShare 19 = .ok (.iload_n 2, 1) := by decide +kernel
theorem dX8_acceptedShare_20 : decode cX8_acceptedShare 20 = .ok (.aload_n 0, 1) := by decide +kernel
theorem dX8_acceptedShare_21 : decode cX8_acceptedShare 21 = .ok (.getfield 76, 3) := by decide +kernel
theorem dX8_acceptedShare_24 : decode cX8_acceptedShare 24 = .ok (.if_icmp .ge 26, 3) := by decide +kernel
theorem dX8_acceptedShare_27 : decode cX8_acceptedShare 27 = .ok (.aload_n 0, 1) := by decide +kernel
theorem dX8_acceptedShare_28 : decode cX8_acceptedShare 28 = .ok (.getfield 31, 3) := by decide +kernel
theorem dX8_acceptedShare_31 : decode cX8_acceptedShare 31 = .ok (.iload_n 2, 1) := by decide +kernel
theorem dX8_acceptedShare_32 : decode cX8_acceptedShare 32 = .ok (.aaload, 1) := by decide +kernel
theorem dX8_acceptedShare_33 : decode cX8_acceptedShare 33 = .ok (.getfield 193, 3) := by decide +kernel
theorem dX8_acceptedShare_36 : decode cX8_acceptedShare 36 = .ok (.bipush 97, 2) := by decide +kernel
theorem dX8_acceptedShare_38 : decode cX8_acceptedShare 38 = .ok (.if_icmp .ne 6, 3) := by decide +kernel
theorem dX8_acceptedShare_41 : decode cX8_acceptedShare 41 = .ok (.iinc 1 1, 3) := by decide +kernel
theorem dX8_acceptedShare_44 : decode cX8_acceptedShare 44 = .ok (.iinc 2 1, 3) := by decide +kernel
theorem dX8_acceptedShare_47 : decode cX8_acceptedShare 47 = .ok (.goto (-28), 3) := by decide +kernel
theorem dX8_acceptedShare_50 : decode cX8_acceptedShare 50 = .ok (.iload_n 1, 1) := by decide +kernel
theorem dX8_acceptedShare_51 : decode cX8_acceptedShare 51 = .ok (.i2f, 1) := by decide +kernel
theorem dX8_acceptedShare_52 : decode cX8_acceptedShare 52 = .ok (.aload_n 0, 1) := by decide +kernel
theorem dX8_acceptedShare_53 : decode cX8_acceptedShare 53 = .ok (.getfield 76, 3) := by decide +kernel
theorem dX8_acceptedShare_56 : decode cX8_acceptedShare 56 = .ok (.i2f, 1) := by decide +kernel
theorem dX8_acceptedShare_57 : decode cX8_acceptedShare 57 = .ok (.fdiv, 1) := by decide +kernel
theorem dX8_acceptedShare_58 : decode cX8_acceptedShare 58 = .ok (.freturn, 1) := by decide +kernel
theorem dX8_meanSteps_0 : decode cX8_meanSteps 0 = .ok (.iconst 0, 1) := by decide +kernel
theorem dX8_meanSteps_1 : decode cX8_meanSteps 1 = .ok (.istore_n 1, 1) := by decide +kernel
theorem dX8_meanSteps_2 : decode cX8_meanSteps 2 = .ok (.iconst 0, 1) := by decide +kernel
theorem dX8_meanSteps_3 : decode cX8_meanSteps 3 = .ok (.istore_n 2, 1) := by decide +kernel
theorem dX8_meanSteps_4 : decode cX8_meanSteps 4 = .ok (.iconst 0, 1) := by decide +kernel
theorem dX8_meanSteps_5 : decode cX8_meanSteps 5 = .ok (.istore_n 3, 1) := by decide +kernel
theorem dX8_meanSteps_6 : decode cX8_meanSteps 6 = .ok (.iload_n 3, 1) := by decide +kernel
theorem dX8_meanSteps_7 : decode cX8_meanSteps 7 = .ok (.aload_n 0, 1) := by decide +kernel
theorem dX8_meanSteps_8 : decode cX8_meanSteps 8 = .ok (.getfield 76, 3) := by decide +kernel
theorem dX8_meanSteps_11 : decode cX8_meanSteps 11 = .ok (.if_icmp .ge 57, 3) := by decide +kernel
theorem dX8_meanSteps_14 : decode cX8_meanSteps 14 = .ok (.aload_n 0, 1) := by decide +kernel
theorem dX8_meanSteps_15 : decode cX8_meanSteps 15 = .ok (.aload_n 0, 1) := by decide +kernel
theorem dX8_meanSteps_16 : decode cX8_meanSteps 16 = .ok (.getfield 31, 3) := by decide +kernel
theorem dX8_meanSteps_19 : decode cX8_meanSteps 19 = .ok (.iload_n 3, 1) := by decide +kernel
theorem dX8_meanSteps_20 : decode cX8_meanSteps 20 = .ok (.aaload, 1) := by decide +kernel
theorem dX8_meanSteps_21 : decode cX8_meanSteps 21 = .ok (.invokevirtual 295, 3) := by decide +kernel
theorem dX8_meanSteps_24 : decode cX8_meanSteps 24 = .ok (.istore 4, 2) := by decide +kernel
theorem dX8_meanSteps_26 : decode cX8_meanSteps 26 = .ok (.iconst 0, 1) := by decide +kernel
theorem dX8_meanSteps_27 : decode cX8_meanSteps 27 = .ok (.istore 5, 2) := by decide +kernel
theorem dX8_meanSteps_29 : decode cX8_meanSteps 29 = .ok (.iload 5, 2) := by decide +kernel
theorem dX8_meanSteps_31 : decode cX8_meanSteps 31 = .ok (.iload 4, 2) := by decide +kernel
theorem dX8_meanSteps_33 : decode cX8_meanSteps 33 = .ok (.if_icmp .ge 24, 3) := by decide +kernel
theorem dX8_meanSteps_36 : decode cX8_meanSteps 36 = .ok (.iload_n 1, 1) := by decide +kernel
theorem dX8_meanSteps_37 : decode cX8_meanSteps 37 = .ok (.aload_n 0, 1) := by decide +kernel
theorem dX8_meanSteps_38 : decode cX8_meanSteps 38 = .ok (.getfield 31, 3) := by decide +kernel
theorem dX8_meanSteps_41 : decode cX8_meanSteps 41 = .ok (.iload_n 3, 1) := by decide +kernel
theorem dX8_meanSteps_42 : decode cX8_meanSteps 42 = .ok (.aaload, 1) := by decide +kernel
theorem dX8_meanSteps_43 : decode cX8_meanSteps 43 = .ok (.getfield 208, 3) := by decide +kernel
theorem dX8_meanSteps_46 : decode cX8_meanSteps 46 = .ok (.iload 5, 2) := by decide +kernel
theorem dX8_meanSteps_48 : decode cX8_meanSteps 48 = .ok (.iaload, 1) := by decide +kernel
theorem dX8_meanSteps_49 : decode cX8_meanSteps 49 = .ok (.iadd, 1) := by decide +kernel
theorem dX8_meanSteps_50 : decode cX8_meanSteps 50 = .ok (.istore_n 1, 1) := by decide +kernel
theorem dX8_meanSteps_51 : decode cX8_meanSteps 51 = .ok (.iinc 5 1, 3) := by decide +kernel
theorem dX8_meanSteps_54 : decode cX8_meanSteps 54 = .ok (.goto (-25), 3) := by decide +kernel
theorem dX8_meanSteps_57 : decode cX8_meanSteps 57 = .ok (.iload_n 2, 1) := by decide +kernel
theorem dX8_meanSteps_58 : decode cX8_meanSteps 58 = .ok (.iload 4, 2) := by decide +kernel
theorem dX8_meanSteps_60 : decode cX8_meanSteps 60 = .ok (.iadd, 1) := by decide +kernel
theorem dX8_meanSteps_61 : decode cX8_meanSteps 61 = .ok (.istore_n 2, 1) := by decide +kernel
theorem dX8_meanSteps_62 : decode cX8_meanSteps 62 = .ok (.iinc 3 1, 3) := by decide +kernel
theorem dX8_meanSteps_65 : decode cX8_meanSteps 65 = .ok (.goto (-59), 3) := by decide +kernel
theorem dX8_meanSteps_68 : decode cX8_meanSteps 68 = .ok (.iload_n 2, 1) := by decide +kernel
theorem dX8_meanSteps_69 : decode cX8_meanSteps 69 = .ok (.ifCond .ne 11, 3) := by decide +kernel
theorem dX8_meanSteps_72 : decode cX8_meanSteps 72 = .ok (.new 292, 3) := by decide +kernel
theorem dX8_meanSteps_75 : decode cX8_meanSteps 75 = .ok (.dup, 1) := by decide +kernel
theorem dX8_meanSteps_76 : decode cX8_meanSteps 76 = .ok (.invokespecial 294, 3) := by decide +kernel
theorem dX8_meanSteps_79 : decode cX8_meanSteps 79 = .ok (.athrow, 1) := by decide +kernel
theorem dX8_meanSteps_80 : decode cX8_meanSteps 80 = .ok (.iload_n 1, 1) := by decide +kernel
theorem dX8_meanSteps_81 : decode cX8_meanSteps 81 = .ok (.i2d, 1) := by decide +kernel
theorem dX8_meanSteps_82 : decode cX8_meanSteps 82 = .ok (.iload_n 2, 1) := by decide +kernel
theorem dX8_meanSteps_83 : decode cX8_meanSteps 83 = .ok (.i2d, 1) := by decide +kernel
theorem dX8_meanSteps_84 : decode cX8_meanSteps 84 = .ok (.ddiv, 1) := by decide +kernel
theorem dX8_meanSteps_85 : decode cX8_meanSteps 85 = .ok (.dreturn, 1) := by decide +kernel
theorem dX8_checksum_0 : decode cX8_checksum 0 = .ok (.ldc2_w 299, 3) := by decide +kernel
theorem dX8_checksum_3 : decode cX8_checksum 3 = .ok (.lstore_n 1, 1) := by decide +kernel
theorem dX8_checksum_4 : decode cX8_checksum 4 = .ok (.iconst 0, 1) := by decide +kernel
theorem dX8_checksum_5 : decode cX8_checksum 5 = .ok (.istore_n 3, 1) := by decide +kernel
theorem dX8_checksum_6 : decode cX8_checksum 6 = .ok (.iload_n 3, 1) := by decide +kernel
theorem dX8_checksum_7 : decode cX8_checksum 7 = .ok (.aload_n 0, 1) := by decide +kernel
theorem dX8_checksum_8 : decode cX8_checksum 8 = .ok (.getfield 76, 3) := by decide +kernel
theorem dX8_checksum_11 : decode cX8_checksum 11 = .ok (.if_icmp .ge 66, 3) := by decide +kernel
theorem dX8_checksum_14 : decode cX8_checksum 14 = .ok (.aload_n 0, 1) := by decide +kernel
theorem dX8_checksum_15 : decode cX8_checksum 15 = .ok (.aload_n 0, 1) := by decide +kernel
theorem dX8_checksum_16 : decode cX8_checksum 16 = .ok (.getfield 31, 3) := by decide +kernel
theorem dX8_checksum_19 : decode cX8_checksum 19 = .ok (.iload_n 3, 1) := by decide +kernel
theorem dX8_checksum_20 : decode cX8_checksum 20 = .ok (.aaload, 1) := by decide +kernel
theorem dX8_checksum_21 : decode cX8_checksum 21 = .ok (.invokevirtual 295, 3) := by decide +kernel
theorem dX8_checksum_24 : decode cX8_checksum 24 = .ok (.istore 4, 2) := by decide +kernel
theorem dX8_checksum_26 : decode cX8_checksum 26 = .ok (.iconst 0, 1) := by decide +kernel
theorem dX8_checksum_27 : decode cX8_checksum 27 = .ok (.istore 5, 2) := by decide +kernel
theorem dX8_checksum_29 : decode cX8_checksum 29 = .ok (.iload 5, 2) := by decide +kernel
theorem dX8_checksum_31 : decode cX8_checksum 31 = .ok (.iload 4, 2) := by decide +kernel
theorem dX8_checksum_33 : decode cX8_checksum 33 = .ok (.if_icmp .ge 38, 3) := by decide +kernel
theorem dX8_checksum_36 : decode cX8_checksum 36 = .ok (.ldc2_w 301, 3) := by decide +kernel
theorem dX8_checksum_39 : decode cX8_checksum 39 = .ok (.aload_n 0, 1) := by decide +kernel
theorem dX8_checksum_40 : decode cX8_checksum 40 = .ok (.getfield 45, 3) := by decide +kernel
theorem dX8_checksum_43 : decode cX8_checksum 43 = .ok (.lload_n 1, 1) := by decide +kernel
theorem dX8_checksum_44 : decode cX8_checksum 44 = .ok (.aload_n 0, 1) := by decide +kernel
theorem dX8_checksum_45 : decode cX8_checksum 45 = .ok (.getfield 31, 3) := by decide +kernel
theorem dX8_checksum_48 : decode cX8_checksum 48 = .ok (.iload_n 3, 1) := by decide +kernel
theorem dX8_checksum_49 : decode cX8_checksum 49 = .ok (.aaload, 1) := by decide +kernel
theorem dX8_checksum_50 : decode cX8_checksum 50 = .ok (.getfield 212, 3) := by decide +kernel
theorem dX8_checksum_53 : decode cX8_checksum 53 = .ok (.iload 5, 2) := by decide +kernel
theorem dX8_checksum_55 : decode cX8_checksum 55 = .ok (.iaload, 1) := by decide +kernel
theorem dX8_checksum_56 : decode cX8_checksum 56 = .ok (.invokevirtual 303, 3) := by decide +kernel
theorem dX8_checksum_59 : decode cX8_checksum 59 = .ok (.lmul, 1) := by decide +kernel
theorem dX8_checksum_60 : decode cX8_checksum 60 = .ok (.ldc2_w 307, 3) := by decide +kernel
theorem dX8_checksum_63 : decode cX8_checksum 63 = .ok (.ladd, 1) := by decide +kernel
theorem dX8_checksum_64 : decode cX8_checksum 64 = .ok (.lstore_n 1, 1) := by decide +kernel
theorem dX8_checksum_65 : decode cX8_checksum 65 = .ok (.iinc 5 1, 3) := by decide +kernel
theorem dX8_checksum_68 : decode cX8_checksum 68 = .ok (.goto (-39), 3) := by decide +kernel
theorem dX8_checksum_71 : decode cX8_checksum 71 = .ok (.iinc 3 1, 3) := by decide +kernel
theorem dX8_checksum_74 : decode cX8_checksum 74 = .ok (.goto (-68), 3) := by decide +kernel
theorem dX8_checksum_77 : decode cX8_checksum 77 = .ok (.lload_n 1, 1) := by decide +kernel
theorem dX8_checksum_78 : decode cX8_checksum 78 = .ok (.lreturn, 1) := by decide +kernel
theorem dX8_isTrue_0 : decode cX8_isTrue 0 = .ok (.aload_n 0, 1) := by decide +kernel
theorem dX8_isTrue_1 : decode cX8_isTrue 1 = .ok (.iconst 1, 1) := by decide +kernel
theorem dX8_isTrue_2 : decode cX8_isTrue 2 = .ok (.invokevirtual 309, 3) := by decide +kernel
theorem dX8_isTrue_5 : decode cX8_isTrue 5 = .ok (.ifCond .eq 39, 3) := by decide +kernel
theorem dX8_isTrue_8 : decode cX8_isTrue 8 = .ok (.aload_n 0, 1) := by decide +kernel
theorem dX8_isTrue_9 : decode cX8_isTrue 9 = .ok (.iconst 0, 1) := by decide +kernel
theorem dX8_isTrue_10 : decode cX8_isTrue 10 = .ok (.invokevirtual 309, 3) := by decide +kernel
theorem dX8_isTrue_13 : decode cX8_isTrue 13 = .ok (.ifCond .eq 31, 3) := by decide +kernel
theorem dX8_isTrue_16 : decode cX8_isTrue 16 = .ok (.aload_n 0, 1) := by decide +kernel
theorem dX8_isTrue_17 : decode cX8_isTrue 17 = .ok (.invokevirtual 312, 3) := by decide +kernel
theorem dX8_isTrue_20 : decode cX8_isTrue 20 = .ok (.ifCond .eq 24, 3) := by decide +kernel
theorem dX8_isTrue_23 : decode cX8_isTrue 23 = .ok (.aload_n 0, 1) := by decide +kernel
theorem dX8_isTrue_24 : decode cX8_isTrue 24 = .ok (.getfield 52, 3) := by decide +kernel
theorem dX8_isTrue_27 : decode cX8_isTrue 27 = .ok (.invokevirtual 316, 3) := by decide +kernel
theorem dX8_isTrue_30 : decode cX8_isTrue 30 = .ok (.ifCond .eq 14, 3) := by decide +kernel
theorem dX8_isTrue_33 : decode cX8_isTrue 33 = .ok (.aload_n 0, 1) := by decide +kernel
theorem dX8_isTrue_34 : decode cX8_isTrue 34 = .ok (.invokevirtual 319, 3) := by decide +kernel
theorem dX8_isTrue_37 : decode cX8_isTrue 37 = .ok (.ifCond .eq 7, 3) := by decide +kernel
theorem dX8_isTrue_40 : decode cX8_isTrue 40 = .ok (.iconst 1, 1) := by decide +kernel
theorem dX8_isTrue_41 : decode cX8_isTrue 41 = .ok (.goto 4, 3) := by decide +kernel
theorem dX8_isTrue_44 : decode cX8_isTrue 44 = .ok (.iconst 0, 1) := by decide +kernel
theorem dX8_isTrue_45 : decode cX8_isTrue 45 = .ok (.ireturn, 1) := by decide +kernel
theorem dX8_isWithin_0 : decode cX8_isWithin 0 = .ok (.iload_n 0, 1) := by decide +kernel
theorem dX8_isWithin_1 : decode cX8_isWithin 1 = .ok (.iload_n 1, 1) := by decide +kernel
theorem dX8_isWithin_2 : decode cX8_isWithin 2 = .ok (.if_icmp .lt 12, 3) := by decide +kernel
theorem dX8_isWithin_5 : decode cX8_isWithin 5 = .ok (.iload_n 0, 1) := by decide +kernel
theorem dX8_isWithin_6 : decode cX8_isWithin 6 = .ok (.iload_n 2, 1) := by decide +kernel
theorem dX8_isWithin_7 : decode cX8_isWithin 7 = .ok (.if_icmp .gt 7, 3) := by decide +kernel
theorem dX8_isWithin_10 : decode cX8_isWithin 10 = .ok (.iconst 1, 1) := by decide +kernel
theorem dX8_isWithin_11 : decode cX8_isWithin 11 = .ok (.goto 4, 3) := by decide +kernel
theorem dX8_isWithin_14 : decode cX8_isWithin 14 = .ok (.iconst 0, 1) := by decide +kernel
theorem dX8_isWithin_15 : decode cX8_isWithin 15 = .ok (.ireturn, 1) := by decide +kernel
theorem dX8_isPlace_0 : decode cX8_isPlace 0 = .ok (.iload_n 0, 1) := by decide +kernel
theorem dX8_isPlace_1 : decode cX8_isPlace 1 = .ok (.iconst 0, 1) := by decide +kernel
theorem dX8_isPlace_2 : decode cX8_isPlace 2 = .ok (.iconst 3, 1) := by decide +kernel
theorem dX8_isPlace_3 : decode cX8_isPlace 3 = .ok (.invokestatic 120, 3) := by decide +kernel
theorem dX8_isPlace_6 : decode cX8_isPlace 6 = .ok (.ireturn, 1) := by decide +kernel
theorem dX8_isNumber_0 : decode cX8_isNumber 0 = .ok (.iload_n 0, 1) := by decide +kernel
theorem dX8_isNumber_1 : decode cX8_isNumber 1 = .ok (.sipush (-999), 3) := by decide +kernel
theorem dX8_isNumber_4 : decode cX8_isNumber 4 = .ok (.sipush 999, 3) := by decide +kernel
theorem dX8_isNumber_7 : decode cX8_isNumber 7 = .ok (.invokestatic 120, 3) := by decide +kernel
theorem dX8_isNumber_10 : decode cX8_isNumber 10 = .ok (.ireturn, 1) := by decide +kernel
theorem dX8_isColour_0 : decode cX8_isColour 0 = .ok (.iload_n 0, 1) := by decide +kernel
theorem dX8_isColour_1 : decode cX8_isColour 1 = .ok (.iconst 0, 1) := by decide +kernel
theorem dX8_isColour_2 : decode cX8_isColour 2 = .ok (.iconst 3, 1) := by decide +kernel
theorem dX8_isColour_3 : decode cX8_isColour 3 = .ok (.invokestatic 120, 3) := by decide +kernel
theorem dX8_isColour_6 : decode cX8_isColour 6 = .ok (.ireturn, 1) := by decide +kernel
theorem dX8_isStep_0 : decode cX8_isStep 0 = .ok (.iload_n 0, 1) := by decide +kernel
theorem dX8_isStep_1 : decode cX8_isStep 1 = .ok (.tableswitch 161 97 115 #[116, 161, 161, 116, 161, 161, 161, 159, 91, 136, 161, 161, 116, 136, 91, 161, 161, 161, 96], 91) := by decide +kernel
theorem dX8_isStep_92 : decode cX8_isStep 92 = .ok (.iload_n 1, 1) := by decide +kernel
theorem dX8_isStep_93 : decode cX8_isStep 93 = .ok (.invokestatic 322, 3) := by decide +kernel
theorem dX8_isStep_96 : decode cX8_isStep 96 = .ok (.ireturn, 1) := by decide +kernel
theorem dX8_isStep_97 : decode cX8_isStep 97 = .ok (.iload_n 1, 1) := by decide +kernel
theorem dX8_isStep_98 : decode cX8_isStep 98 = .ok (.invokestatic 322, 3) := by decide +kernel
theorem dX8_isStep_101 : decode cX8_isStep 101 = .ok (.ifCond .eq 14, 3) := by decide +kernel
theorem dX8_isStep_104 : decode cX8_isStep 104 = .ok (.iload_n 2, 1) := by decide +kernel
theorem dX8_isStep_105 : decode cX8_isStep 105 = .ok (.invokestatic 101, 3) := by decide +kernel
theorem dX8_isStep_108 : decode cX8_isStep 108 = .ok (.ifCond .eq 7, 3) := by decide +kernel
theorem dX8_isStep_111 : decode cX8_isStep 111 = .ok (.iconst 1, 1) := by decide +kernel
theorem dX8_isStep_112 : decode cX8_isStep 112 = .ok (.goto 4, 3) := by decide +kernel
theorem dX8_isStep_115 : decode cX8_isStep 115 = .ok (.iconst 0, 1) := by decide +kernel
theorem dX8_isStep_116 : decode cX8_isStep 116 = .ok (.ireturn, 1) := by decide +kernel
theorem dX8_isStep_117 : decode cX8_isStep 117 = .ok (.iload_n 1, 1) := by decide +kernel
theorem dX8_isStep_118 : decode cX8_isStep 118 = .ok (.invokestatic 322, 3) := by decide +kernel
theorem dX8_isStep_121 : decode cX8_isStep 121 = .ok (.ifCond .eq 14, 3) := by decide +kernel
theorem dX8_isStep_124 : decode cX8_isStep 124 = .ok (.iload_n 2, 1) := by decide +kernel
theorem dX8_isStep_125 : decode cX8_isStep 125 = .ok (.invokestatic 322, 3) := by decide +kernel
theorem dX8_isStep_128 : decode cX8_isStep 128 = .ok (.ifCond .eq 7, 3) := by decide +kernel
theorem dX8_isStep_131 : decode cX8_isStep 131 = .ok (.iconst 1, 1) := by decide +kernel
theorem dX8_isStep_132 : decode cX8_isStep 132 = .ok (.goto 4, 3) := by decide +kernel
theorem dX8_isStep_135 : decode cX8_isStep 135 = .ok (.iconst 0, 1) := by decide +kernel
theorem dX8_isStep_136 : decode cX8_isStep 136 = .ok (.ireturn, 1) := by decide +kernel
theorem dX8_isStep_137 : decode cX8_isStep 137 = .ok (.iload_n 1, 1) := by decide +kernel
theorem dX8_isStep_138 : decode cX8_isStep 138 = .ok (.invokestatic 322, 3) := by decide +kernel
theorem dX8_isStep_141 : decode cX8_isStep 141 = .ok (.ifCond .eq 17, 3) := by decide +kernel
theorem dX8_isStep_144 : decode cX8_isStep 144 = .ok (.iload_n 2, 1) := by decide +kernel
theorem dX8_isStep_145 : decode cX8_isStep 145 = .ok (.iconst 0, 1) := by decide +kernel
theorem dX8_isStep_146 : decode cX8_isStep 146 = .ok (.bipush 99, 2) := by decide +kernel
theorem dX8_isStep_148 : decode cX8_isStep 148 = .ok (.invokestatic 120, 3) := by decide +kernel
theorem dX8_isStep_151 : decode cX8_isStep 151 = .ok (.ifCond .eq 7, 3) := by decide +kernel
theorem dX8_isStep_154 : decode cX8_isStep 154 = .ok (.iconst 1, 1) := by decide +kernel
theorem dX8_isStep_155 : decode cX8_isStep 155 = .ok (.goto 4, 3) := by decide +kernel
theorem dX8_isStep_158 : decode cX8_isStep 158 = .ok (.iconst 0, 1) := by decide +kernel
theorem dX8_isStep_159 : decode cX8_isStep 159 = .ok (.ireturn, 1) := by decide +kernel
theorem dX8_isStep_160 : decode cX8_isStep 160 = .ok (.iconst 1, 1) := by decide +kernel
theorem dX8_isStep_161 : decode cX8_isStep 161 = .ok (.ireturn, 1) := by decide +kernel
theorem dX8_isStep_162 : decode cX8_isStep 162 = .ok (.iconst 0, 1) := by decide +kernel
theorem dX8_isStep_163 : decode cX8_isStep 163 = .ok (.ireturn, 1) := by decide +kernel
theorem dX8_spotOf_0 : decode cX8_spotOf 0 = .ok (.iload_n 0, 1) := by decide +kernel
theorem dX8_spotOf_1 : decode cX8_spotOf 1 = .ok (.iconst 5, 1) := by decide +kernel
theorem dX8_spotOf_2 : decode cX8_spotOf 2 = .ok (.imul, 1) := by decide +kernel
theorem dX8_spotOf_3 : decode cX8_spotOf 3 = .ok (.iload_n 1, 1) := by decide +kernel
theorem dX8_spotOf_4 : decode cX8_spotOf 4 = .ok (.iadd, 1) := by decide +kernel
theorem dX8_spotOf_5 : decode cX8_spotOf 5 = .ok (.ireturn, 1) := by decide +kernel
theorem dX8_teamOf_0 : decode cX8_teamOf 0 = .ok (.iload_n 0, 1) := by decide +kernel
theorem dX8_teamOf_1 : decode cX8_teamOf 1 = .ok (.iconst 5, 1) := by decide +kernel
theorem dX8_teamOf_2 : decode cX8_teamOf 2 = .ok (.idiv, 1) := by decide +kernel
theorem dX8_teamOf_3 : decode cX8_teamOf 3 = .ok (.ireturn, 1) := by decide +kernel
theorem dX8_hasProblem_0 : decode cX8_hasProblem 0 = .ok (.iload_n 1, 1) := by decide +kernel
theorem dX8_hasProblem_1 : decode cX8_hasProblem 1 = .ok (.iconst 0, 1) := by decide +kernel
theorem dX8_hasProblem_2 : decode cX8_hasProblem 2 = .ok (.aload_n 0, 1) := by decide +kernel
theorem dX8_hasProblem_3 : decode cX8_hasProblem 3 = .ok (.getfield 69, 3) := by decide +kernel
theorem dX8_hasProblem_6 : decode cX8_hasProblem 6 = .ok (.iconst 1, 1) := by decide +kernel
theorem dX8_hasProblem_7 : decode cX8_hasProblem 7 = .ok (.isub, 1) := by decide +kernel
theorem dX8_hasProblem_8 : decode cX8_hasProblem 8 = .ok (.invokestatic 120, 3) := by decide +kernel
theorem dX8_hasProblem_11 : decode cX8_hasProblem 11 = .ok (.ireturn, 1) := by decide +kernel
theorem dX8_hasTeam_0 : decode cX8_hasTeam 0 = .ok (.iload_n 1, 1) := by decide +kernel
theorem dX8_hasTeam_1 : decode cX8_hasTeam 1 = .ok (.iconst 0, 1) := by decide +kernel
theorem dX8_hasTeam_2 : decode cX8_hasTeam 2 = .ok (.aload_n 0, 1) := by decide +kernel
theorem dX8_hasTeam_3 : decode cX8_hasTeam 3 = .ok (.getfield 73, 3) := by decide +kernel
theorem dX8_hasTeam_6 : decode cX8_hasTeam 6 = .ok (.iconst 1, 1) := by decide +kernel
theorem dX8_hasTeam_7 : decode cX8_hasTeam 7 = .ok (.isub, 1) := by decide +kernel
theorem dX8_hasTeam_8 : decode cX8_hasTeam 8 = .ok (.invokestatic 120, 3) := by decide +kernel
theorem dX8_hasTeam_11 : decode cX8_hasTeam 11 = .ok (.ireturn, 1) := by decide +kernel
theorem dX8_hasRun_0 : decode cX8_hasRun 0 = .ok (.iload_n 1, 1) := by decide +kernel
theorem dX8_hasRun_1 : decode cX8_hasRun 1 = .ok (.iconst 0, 1) := by decide +kernel
theorem dX8_hasRun_2 : decode cX8_hasRun 2 = .ok (.aload_n 0, 1) := by decide +kernel
theorem dX8_hasRun_3 : decode cX8_hasRun 3 = .ok (.getfield 76, 3) := by decide +kernel
theorem dX8_hasRun_6 : decode cX8_hasRun 6 = .ok (.iconst 1, 1) := by decide +kernel
theorem dX8_hasRun_7 : decode cX8_hasRun 7 = .ok (.isub, 1) := by decide +kernel
theorem dX8_hasRun_8 : decode cX8_hasRun 8 = .ok (.invokestatic 120, 3) := by decide +kernel
theorem dX8_hasRun_11 : decode cX8_hasRun 11 = .ok (.ireturn, 1) := by decide +kernel
theorem dX8_hasTestOfRun_0 : decode cX8_hasTestOfRun 0 = .ok (.aload_n 0, 1) := by decide +kernel
theorem dX8_hasTestOfRun_1 : decode cX8_hasTestOfRun 1 = .ok (.iload_n 1, 1) := by decide +kernel
theorem dX8_hasTestOfRun_2 : decode cX8_hasTestOfRun 2 = .ok (.invokevirtual 190, 3) := by decide +kernel
theorem dX8_hasTestOfRun_5 : decode cX8_hasTestOfRun 5 = .ok (.ifCond .eq 28, 3) := by decide +kernel
theorem dX8_hasTestOfRun_8 : decode cX8_hasTestOfRun 8 = .ok (.aload_n 0, 1) := by decide +kernel
theorem dX8_hasTestOfRun_9 : decode cX8_hasTestOfRun 9 = .ok (.getfield 25, 3) := by decide +kernel
theorem dX8_hasTestOfRun_12 : decode cX8_hasTestOfRun 12 = .ok (.aload_n 0, 1) := by decide +kernel
theorem dX8_hasTestOfRun_13 : decode cX8_hasTestOfRun 13 = .ok (.getfield 31, 3) := by decide +kernel
theorem dX8_hasTestOfRun_16 : decode cX8_hasTestOfRun 16 = .ok (.iload_n 1, 1) := by decide +kernel
theorem dX8_hasTestOfRun_17 : decode cX8_hasTestOfRun 17 = .ok (.aaload, 1) := by decide +kernel
theorem dX8_hasTestOfRun_18 : decode cX8_hasTestOfRun 18 = .ok (.getfield 166, 3) := by decide +kernel
theorem dX8_hasTestOfRun_21 : decode cX8_hasTestOfRun 21 = .ok (.aaload, 1) := by decide +kernel
theorem dX8_hasTestOfRun_22 : decode cX8_hasTestOfRun 22 = .ok (.iload_n 2, 1) := by decide +kernel
theorem dX8_hasTestOfRun_23 : decode cX8_hasTestOfRun 23 = .ok (.invokevirtual 151, 3) := by decide +kernel
theorem dX8_hasTestOfRun_26 : decode cX8_hasTestOfRun 26 = .ok (.ifCond .eq 7, 3) := by decide +kernel
theorem dX8_hasTestOfRun_29 : decode cX8_hasTestOfRun 29 = .ok (.iconst 1, 1) := by decide +kernel
theorem dX8_hasTestOfRun_30 : decode cX8_hasTestOfRun 30 = .ok (.goto 4, 3) := by decide +kernel
theorem dX8_hasTestOfRun_33 : decode cX8_hasTestOfRun 33 = .ok (.iconst 0, 1) := by decide +kernel
theorem dX8_hasTestOfRun_34 : decode cX8_hasTestOfRun 34 = .ok (.ireturn, 1) := by decide +kernel
theorem dX8_testCountOf_0 : decode cX8_testCountOf 0 = .ok (.aload_n 0, 1) := by decide +kernel
theorem dX8_testCountOf_1 : decode cX8_testCountOf 1 = .ok (.getfield 25, 3) := by decide +kernel
theorem dX8_testCountOf_4 : decode cX8_testCountOf 4 = .ok (.aload_n 1, 1) := by decide +kernel
theorem dX8_testCountOf_5 : decode cX8_testCountOf 5 = .ok (.getfield 166, 3) := by decide +kernel
theorem dX8_testCountOf_8 : decode cX8_testCountOf 8 = .ok (.aaload, 1) := by decide +kernel
theorem dX8_testCountOf_9 : decode cX8_testCountOf 9 = .ok (.getfield 136, 3) := by decide +kernel
theorem dX8_testCountOf_12 : decode cX8_testCountOf 12 = .ok (.ireturn, 1) := by decide +kernel
theorem dX8_lastMinute_0 : decode cX8_lastMinute 0 = .ok (.aload_n 0, 1) := by decide +kernel
theorem dX8_lastMinute_1 : decode cX8_lastMinute 1 = .ok (.getfield 76, 3) := by decide +kernel
theorem dX8_lastMinute_4 : decode cX8_lastMinute 4 = .ok (.ifCond .ne 7, 3) := by decide +kernel
theorem dX8_lastMinute_7 : decode cX8_lastMinute 7 = .ok (.iconst 0, 1) := by decide +kernel
theorem dX8_lastMinute_8 : decode cX8_lastMinute 8 = .ok (.goto 17, 3) := by decide +kernel
theorem dX8_lastMinute_11 : decode cX8_lastMinute 11 = .ok (.aload_n 0, 1) := by decide +kernel
theorem dX8_lastMinute_12 : decode cX8_lastMinute 12 = .ok (.getfield 31, 3) := by decide +kernel
theorem dX8_lastMinute_15 : decode cX8_lastMinute 15 = .ok (.aload_n 0, 1) := by decide +kernel
theorem dX8_lastMinute_16 : decode cX8_lastMinute 16 = .ok (.getfield 76, 3) := by decide +kernel
theorem dX8_lastMinute_19 : decode cX8_lastMinute 19 = .ok (.iconst 1, 1) := by decide +kernel
theorem dX8_lastMinute_20 : decode cX8_lastMinute 20 = .ok (.isub, 1) := by decide +kernel
theorem dX8_lastMinute_21 : decode cX8_lastMinute 21 = .ok (.aaload, 1) := by decide +kernel
theorem dX8_lastMinute_22 : decode cX8_lastMinute 22 = .ok (.getfield 169, 3) := by decide +kernel
theorem dX8_lastMinute_25 : decode cX8_lastMinute 25 = .ok (.ireturn, 1) := by decide +kernel
theorem dX8_boardOf_0 : decode cX8_boardOf 0 = .ok (.iload_n 1, 1) := by decide +kernel
theorem dX8_boardOf_1 : decode cX8_boardOf 1 = .ok (.ifCond .eq 10, 3) := by decide +kernel
theorem dX8_boardOf_4 : decode cX8_boardOf 4 = .ok (.aload_n 0, 1) := by decide +kernel
theorem dX8_boardOf_5 : decode cX8_boardOf 5 = .ok (.getfield 63, 3) := by decide +kernel
theorem dX8_boardOf_8 : decode cX8_boardOf 8 = .ok (.goto 7, 3) := by decide +kernel
theorem dX8_boardOf_11 : decode cX8_boardOf 11 = .ok (.aload_n 0, 1) := by decide +kernel
theorem dX8_boardOf_12 : decode cX8_boardOf 12 = .ok (.getfield 59, 3) := by decide +kernel
theorem dX8_boardOf_15 : decode cX8_boardOf 15 = .ok (.areturn, 1) := by decide +kernel
theorem dX8_recountBoards_0 : decode cX8_recountBoards 0 = .ok (.aload_n 0, 1) := by decide +kernel
theorem dX8_recountBoards_1 : decode cX8_recountBoards 1 = .ok (.getfield 59, 3) := by decide +kernel
theorem dX8_recountBoards_4 : decode cX8_recountBoards 4 = .ok (.aload_n 0, 1) := by decide +kernel
theorem dX8_recountBoards_5 : decode cX8_recountBoards 5 = .ok (.getfield 31, 3) := by decide +kernel
theorem dX8_recountBoards_8 : decode cX8_recountBoards 8 = .ok (.aload_n 0, 1) := by decide +kernel
theorem dX8_recountBoards_9 : decode cX8_recountBoards 9 = .ok (.getfield 76, 3) := by decide +kernel
theorem dX8_recountBoards_12 : decode cX8_recountBoards 12 = .ok (.aload_n 0, 1) := by decide +kernel
theorem dX8_recountBoards_13 : decode cX8_recountBoards 13 = .ok (.getfield 73, 3) := by decide +kernel
theorem dX8_recountBoards_16 : decode cX8_recountBoards 16 = .ok (.iconst 0, 1) := by decide +kernel
theorem dX8_recountBoards_17 : decode cX8_recountBoards 17 = .ok (.invokevirtual 325, 3) := by decide +kernel
theorem dX8_recountBoards_20 : decode cX8_recountBoards 20 = .ok (.aload_n 0, 1) := by decide +kernel
theorem dX8_recountBoards_21 : decode cX8_recountBoards 21 = .ok (.getfield 63, 3) := by decide +kernel
theorem dX8_recountBoards_24 : decode cX8_recountBoards 24 = .ok (.aload_n 0, 1) := by decide +kernel
theorem dX8_recountBoards_25 : decode cX8_recountBoards 25 = .ok (.getfield 31, 3) := by decide +kernel
theorem dX8_recountBoards_28 : decode cX8_recountBoards 28 = .ok (.aload_n 0, 1) := by decide +kernel
theorem dX8_recountBoards_29 : decode cX8_recountBoards 29 = .ok (.getfield 76, 3) := by decide +kernel
theorem dX8_recountBoards_32 : decode cX8_recountBoards 32 = .ok (.aload_n 0, 1) := by decide +kernel
theorem dX8_recountBoards_33 : decode cX8_recountBoards 33 = .ok (.getfield 73, 3) := by decide +kernel
theorem dX8_recountBoards_36 : decode cX8_recountBoards 36 = .ok (.iconst 1, 1) := by decide +kernel
theorem dX8_recountBoards_37 : decode cX8_recountBoards 37 = .ok (.invokevirtual 325, 3) := by decide +kernel
theorem dX8_recountBoards_40 : decode cX8_recountBoards 40 = .ok (.return_, 1) := by decide +kernel
theorem dX8_judgeByAll_0 : decode cX8_judgeByAll 0 = .ok (.aload_n 0, 1) := by decide +kernel
theorem dX8_judgeByAll_1 : decode cX8_judgeByAll 1 = .ok (.aload_n 1, 1) := by decide +kernel
theorem dX8_judgeByAll_2 : decode cX8_judgeByAll 2 = .ok (.invokevirtual 295, 3) := by decide +kernel
theorem dX8_judgeByAll_5 : decode cX8_judgeByAll 5 = .ok (.istore_n 2, 1) := by decide +kernel
theorem dX8_judgeByAll_6 : decode cX8_judgeByAll 6 = .ok (.iconst 0, 1) := by decide +kernel
theorem dX8_judgeByAll_7 : decode cX8_judgeByAll 7 = .ok (.istore_n 3, 1) := by decide +kernel
theorem dX8_judgeByAll_8 : decode cX8_judgeByAll 8 = .ok (.iload_n 3, 1) := by decide +kernel
theorem dX8_judgeByAll_9 : decode cX8_judgeByAll 9 = .ok (.iload_n 2, 1) := by decide +kernel
theorem dX8_judgeByAll_10 : decode cX8_judgeByAll 10 = .ok (.if_icmp .ge 15, 3) := by decide +kernel
theorem dX8_judgeByAll_13 : decode cX8_judgeByAll 13 = .ok (.aload_n 0, 1) := by decide +kernel
theorem dX8_judgeByAll_14 : decode cX8_judgeByAll 14 = .ok (.aload_n 1, 1) := by decide +kernel
theorem dX8_judgeByAll_15 : decode cX8_judgeByAll 15 = .ok (.iload_n 3, 1) := by decide +kernel
theorem dX8_judgeByAll_16 : decode cX8_judgeByAll 16 = .ok (.invokevirtual 329, 3) := by decide +kernel
theorem dX8_judgeByAll_19 : decode cX8_judgeByAll 19 = .ok (.iinc 3 1, 3) := by decide +kernel
theorem dX8_judgeByAll_22 : decode cX8_judgeByAll 22 = .ok (.goto (-14), 3) := by decide +kernel
theorem dX8_judgeByAll_25 : decode cX8_judgeByAll 25 = .ok (.aload_n 1, 1) := by decide +kernel
theorem dX8_judgeByAll_26 : decode cX8_judgeByAll 26 = .ok (.iload_n 2, 1) := by decide +kernel
theorem dX8_judgeByAll_27 : decode cX8_judgeByAll 27 = .ok (.invokevirtual 333, 3) := by decide +kernel
theorem dX8_judgeByAll_30 : decode cX8_judgeByAll 30 = .ok (.return_, 1) := by decide +kernel
theorem dX8_judge_0 : decode cX8_judge 0 = .ok (.aload_n 0, 1) := by decide +kernel
theorem dX8_judge_1 : decode cX8_judge 1 = .ok (.getfield 25, 3) := by decide +kernel
theorem dX8_judge_4 : decode cX8_judge 4 = .ok (.aload_n 1, 1) := by decide +kernel
theorem dX8_judge_5 : decode cX8_judge 5 = .ok (.getfield 166, 3) := by decide +kernel
theorem dX8_judge_8 : decode cX8_judge 8 = .ok (.aaload, 1) := by decide +kernel
theorem dX8_judge_9 : decode cX8_judge 9 = .ok (.astore_n 3, 1) := by decide +kernel
theorem dX8_judge_10 : decode cX8_judge 10 = .ok (.aload_n 0, 1) := by decide +kernel
theorem dX8_judge_11 : decode cX8_judge 11 = .ok (.getfield 38, 3) := by decide +kernel
theorem dX8_judge_14 : decode cX8_judge 14 = .ok (.aload_n 1, 1) := by decide +kernel
theorem dX8_judge_15 : decode cX8_judge 15 = .ok (.getfield 176, 3) := by decide +kernel
theorem dX8_judge_18 : decode cX8_judge 18 = .ok (.aload_n 3, 1) := by decide +kernel
theorem dX8_judge_19 : decode cX8_judge 19 = .ok (.getfield 139, 3) := by decide +kernel
theorem dX8_judge_22 : decode cX8_judge 22 = .ok (.iload_n 2, 1) := by decide +kernel
theorem dX8_judge_23 : decode cX8_judge 23 = .ok (.aaload, 1) := by decide +kernel
theorem dX8_judge_24 : decode cX8_judge 24 = .ok (.aload_n 3, 1) := by decide +kernel
theorem dX8_judge_25 : decode cX8_judge 25 = .ok (.getfield 127, 3) := by decide +kernel
theorem dX8_judge_28 : decode cX8_judge 28 = .ok (.invokevirtual 336, 3) := by decide +kernel
theorem dX8_judge_31 : decode cX8_judge 31 = .ok (.aload_n 0, 1) := by decide +kernel
theorem dX8_judge_32 : decode cX8_judge 32 = .ok (.getfield 45, 3) := by decide +kernel
theorem dX8_judge_35 : decode cX8_judge 35 = .ok (.aload_n 1, 1) := by decide +kernel
theorem dX8_judge_36 : decode cX8_judge 36 = .ok (.getfield 212, 3) := by decide +kernel
theorem dX8_judge_39 : decode cX8_judge 39 = .ok (.iload_n 2, 1) := by decide +kernel
theorem dX8_judge_40 : decode cX8_judge 40 = .ok (.iaload, 1) := by decide +kernel
theorem dX8_judge_41 : decode cX8_judge 41 = .ok (.invokevirtual 340, 3) := by decide +kernel
theorem dX8_judge_44 : decode cX8_judge 44 = .ok (.aload_n 1, 1) := by decide +kernel
theorem dX8_judge_45 : decode cX8_judge 45 = .ok (.getfield 212, 3) := by decide +kernel
theorem dX8_judge_48 : decode cX8_judge 48 = .ok (.iload_n 2, 1) := by decide +kernel
theorem dX8_judge_49 : decode cX8_judge 49 = .ok (.aload_n 0, 1) := by decide +kernel
theorem dX8_judge_50 : decode cX8_judge 50 = .ok (.getfield 45, 3) := by decide +kernel
theorem dX8_judge_53 : decode cX8_judge 53 = .ok (.aload_n 0, 1) := by decide +kernel
theorem dX8_judge_54 : decode cX8_judge 54 = .ok (.getfield 38, 3) := by decide +kernel
theorem dX8_judge_57 : decode cX8_judge 57 = .ok (.getfield 343, 3) := by decide +kernel
theorem dX8_judge_60 : decode cX8_judge 60 = .ok (.aload_n 0, 1) := by decide +kernel
theorem dX8_judge_61 : decode cX8_judge 61 = .ok (.getfield 38, 3) := by decide +kernel
theorem dX8_judge_64 : decode cX8_judge 64 = .ok (.getfield 346, 3) := by decide +kernel
theorem dX8_judge_67 : decode cX8_judge 67 = .ok (.invokevirtual 349, 3) := by decide +kernel
theorem dX8_judge_70 : decode cX8_judge 70 = .ok (.iastore, 1) := by decide +kernel
theorem dX8_judge_71 : decode cX8_judge 71 = .ok (.aload_n 1, 1) := by decide +kernel
theorem dX8_judge_72 : decode cX8_judge 72 = .ok (.getfield 204, 3) := by decide +kernel
theorem dX8_judge_75 : decode cX8_judge 75 = .ok (.iload_n 2, 1) := by decide +kernel
theorem dX8_judge_76 : decode cX8_judge 76 = .ok (.aload_n 0, 1) := by decide +kernel
theorem dX8_judge_77 : decode cX8_judge 77 = .ok (.getfield 38, 3) := by decide +kernel
theorem dX8_judge_80 : decode cX8_judge 80 = .ok (.getfield 353, 3) := by decide +kernel
theorem dX8_judge_83 : decode cX8_judge 83 = .ok (.castore, 1) := by decide +kernel
theorem dX8_judge_84 : decode cX8_judge 84 = .ok (.aload_n 1, 1) := by decide +kernel
theorem dX8_judge_85 : decode cX8_judge 85 = .ok (.getfield 208, 3) := by decide +kernel
theorem dX8_judge_88 : decode cX8_judge 88 = .ok (.iload_n 2, 1) := by decide +kernel
theorem dX8_judge_89 : decode cX8_judge 89 = .ok (.aload_n 0, 1) := by decide +kernel
theorem dX8_judge_90 : decode cX8_judge 90 = .ok (.getfield 38, 3) := by decide +kernel
theorem dX8_judge_93 : decode cX8_judge 93 = .ok (.getfield 356, 3) := by decide +kernel
theorem dX8_judge_96 : decode cX8_judge 96 = .ok (.iastore, 1) := by decide +kernel
theorem dX8_judge_97 : decode cX8_judge 97 = .ok (.return_, 1) := by decide +kernel
theorem dX8_judgeAnew_0 : decode cX8_judgeAnew 0 = .ok (.iconst 0, 1) := by decide +kernel
theorem dX8_judgeAnew_1 : decode cX8_judgeAnew 1 = .ok (.istore_n 3, 1) := by decide +kernel
theorem dX8_judgeAnew_2 : decode cX8_judgeAnew 2 = .ok (.iconst 0, 1) := by decide +kernel
theorem dX8_judgeAnew_3 : decode cX8_judgeAnew 3 = .ok (.istore 4, 2) := by decide +kernel
theorem dX8_judgeAnew_5 : decode cX8_judgeAnew 5 = .ok (.iload 4, 2) := by decide +kernel
theorem dX8_judgeAnew_7 : decode cX8_judgeAnew 7 = .ok (.aload_n 0, 1) := by decide +kernel
theorem dX8_judgeAnew_8 : decode cX8_judgeAnew 8 = .ok (.getfield 76, 3) := by decide +kernel
theorem dX8_judgeAnew_11 : decode cX8_judgeAnew 11 = .ok (.if_icmp .ge 84, 3) := by decide +kernel
theorem dX8_judgeAnew_14 : decode cX8_judgeAnew 14 = .ok (.aload_n 0, 1) := by decide +kernel
theorem dX8_judgeAnew_15 : decode cX8_judgeAnew 15 = .ok (.getfield 31, 3) := by decide +kernel
theorem dX8_judgeAnew_18 : decode cX8_judgeAnew 18 = .ok (.iload 4, 2) := by decide +kernel
theorem dX8_judgeAnew_20 : decode cX8_judgeAnew 20 = .ok (.aaload, 1) := by decide +kernel
theorem dX8_judgeAnew_21 : decode cX8_judgeAnew 21 = .ok (.getfield 166, 3) := by decide +kernel
theorem dX8_judgeAnew_24 : decode cX8_judgeAnew 24 = .ok (.iload_n 1, 1) := by decide +kernel
theorem dX8_judgeAnew_25 : decode cX8_judgeAnew 25 = .ok (.if_icmp .ne 64, 3) := by decide +kernel
theorem dX8_judgeAnew_28 : decode cX8_judgeAnew 28 = .ok (.aload_n 0, 1) := by decide +kernel
theorem dX8_judgeAnew_29 : decode cX8_judgeAnew 29 = .ok (.getfield 31, 3) := by decide +kernel
theorem dX8_judgeAnew_32 : decode cX8_judgeAnew 32 = .ok (.iload 4, 2) := by decide +kernel
theorem dX8_judgeAnew_34 : decode cX8_judgeAnew 34 = .ok (.aaload, 1) := by decide +kernel
theorem dX8_judgeAnew_35 : decode cX8_judgeAnew 35 = .ok (.getfield 193, 3) := by decide +kernel
theorem dX8_judgeAnew_38 : decode cX8_judgeAnew 38 = .ok (.istore 5, 2) := by decide +kernel
theorem dX8_judgeAnew_40 : decode cX8_judgeAnew 40 = .ok (.aload_n 0, 1) := by decide +kernel
theorem dX8_judgeAnew_41 : decode cX8_judgeAnew 41 = .ok (.aload_n 0, 1) := by decide +kernel
theorem dX8_judgeAnew_42 : decode cX8_judgeAnew 42 = .ok (.getfield 31, 3) := by decide +kernel
theorem dX8_judgeAnew_45 : decode cX8_judgeAnew 45 = .ok (.iload 4, 2) := by decide +kernel
theorem dX8_judgeAnew_47 : decode cX8_judgeAnew 47 = .ok (.aaload, 1) := by decide +kernel
theorem dX8_judgeAnew_48 : decode cX8_judgeAnew 48 = .ok (.iload_n 2, 1) := by decide +kernel
theorem dX8_judgeAnew_49 : decode cX8_judgeAnew 49 = .ok (.invokevirtual 329, 3) := by decide +kernel
theorem dX8_judgeAnew_52 : decode cX8_judgeAnew 52 = .ok (.aload_n 0, 1) := by decide +kernel
theorem dX8_judgeAnew_53 : decode cX8_judgeAnew 53 = .ok (.getfield 31, 3) := by decide +kernel
theorem dX8_judgeAnew_56 : decode cX8_judgeAnew 56 = .ok (.iload 4, 2) := by decide +kernel
theorem dX8_judgeAnew_58 : decode cX8_judgeAnew 58 = .ok (.aaload, 1) := by decide +kernel
theorem dX8_judgeAnew_59 : decode cX8_judgeAnew 59 = .ok (.aload_n 0, 1) := by decide +kernel
theorem dX8_judgeAnew_60 : decode cX8_judgeAnew 60 = .ok (.getfield 25, 3) := by decide +kernel
theorem dX8_judgeAnew_63 : decode cX8_judgeAnew 63 = .ok (.iload_n 1, 1) := by decide +kernel
theorem dX8_judgeAnew_64 : decode cX8_judgeAnew 64 = .ok (.aaload, 1) := by decide +kernel
theorem dX8_judgeAnew_65 : decode cX8_judgeAnew 65 = .ok (.getfield 136, 3) := by decide +kernel
theorem dX8_judgeAnew_68 : decode cX8_judgeAnew 68 = .ok (.invokevirtual 333, 3) := by decide +kernel
theorem dX8_judgeAnew_71 : decode cX8_judgeAnew 71 = .ok (.aload_n 0, 1) := by decide +kernel
theorem dX8_judgeAnew_72 : decode cX8_judgeAnew 72 = .ok (.getfield 31, 3) := by decide +kernel
theorem dX8_judgeAnew_75 : decode cX8_judgeAnew 75 = .ok (.iload 4, 2) := by decide +kernel
theorem dX8_judgeAnew_77 : decode cX8_judgeAnew 77 = .ok (.aaload, 1) := by decide +kernel
theorem dX8_judgeAnew_78 : decode cX8_judgeAnew 78 = .ok (.getfield 193, 3) := by decide +kernel
theorem dX8_judgeAnew_81 : decode cX8_judgeAnew 81 = .ok (.iload 5, 2) := by decide +kernel
theorem dX8_judgeAnew_83 : decode cX8_judgeAnew 83 = .ok (.if_icmp .eq 6, 3) := by decide +kernel
theorem dX8_judgeAnew_86 : decode cX8_judgeAnew 86 = .ok (.iinc 3 1, 3) := by decide +kernel
theorem dX8_judgeAnew_89 : decode cX8_judgeAnew 89 = .ok (.iinc 4 1, 3) := by decide +kernel
theorem dX8_judgeAnew_92 : decode cX8_judgeAnew 92 = .ok (.goto (-87), 3) := by decide +kernel
theorem dX8_judgeAnew_95 : decode cX8_judgeAnew 95 = .ok (.aload_n 0, 1) := by decide +kernel
theorem dX8_judgeAnew_96 : decode cX8_judgeAnew 96 = .ok (.invokevirtual 154, 3) := by decide +kernel
theorem dX8_judgeAnew_99 : decode cX8_judgeAnew 99 = .ok (.aload_n 0, 1) := by decide +kernel
theorem dX8_judgeAnew_100 : decode cX8_judgeAnew 100 = .ok (.getfield 52, 3) := by decide +kernel
theorem dX8_judgeAnew_103 : decode cX8_judgeAnew 103 = .ok (.aload_n 0, 1) := by decide +kernel
theorem dX8_judgeAnew_104 : decode cX8_judgeAnew 104 = .ok (.getfield 59, 3) := by decide +kernel
theorem dX8_judgeAnew_107 : decode cX8_judgeAnew 107 = .ok (.iload_n 1, 1) := by decide +kernel
theorem dX8_judgeAnew_108 : decode cX8_judgeAnew 108 = .ok (.aload_n 0, 1) := by decide +kernel
theorem dX8_judgeAnew_109 : decode cX8_judgeAnew 109 = .ok (.getfield 25, 3) := by decide +kernel
theorem dX8_judgeAnew_112 : decode cX8_judgeAnew 112 = .ok (.iload_n 1, 1) := by decide +kernel
theorem dX8_judgeAnew_113 : decode cX8_judgeAnew 113 = .ok (.aaload, 1) := by decide +kernel
theorem dX8_judgeAnew_114 : decode cX8_judgeAnew 114 = .ok (.getfield 124, 3) := by decide +kernel
theorem dX8_judgeAnew_117 : decode cX8_judgeAnew 117 = .ok (.invokevirtual 186, 3) := by decide +kernel
theorem dX8_judgeAnew_120 : decode cX8_judgeAnew 120 = .ok (.iload_n 3, 1) := by decide +kernel
theorem dX8_judgeAnew_121 : decode cX8_judgeAnew 121 = .ok (.ireturn, 1) := by decide +kernel
theorem dX8_countPending_0 : decode cX8_countPending 0 = .ok (.iconst 0, 1) := by decide +kernel
theorem dX8_countPending_1 : decode cX8_countPending 1 = .ok (.istore_n 3, 1) := by decide +kernel
theorem dX8_countPending_2 : decode cX8_countPending 2 = .ok (.iconst 0, 1) := by decide +kernel
theorem dX8_countPending_3 : decode cX8_countPending 3 = .ok (.istore 4, 2) := by decide +kernel
theorem dX8_countPending_5 : decode cX8_countPending 5 = .ok (.iload 4, 2) := by decide +kernel
theorem dX8_countPending_7 : decode cX8_countPending 7 = .ok (.aload_n 0, 1) := by decide +kernel
theorem dX8_countPending_8 : decode cX8_countPending 8 = .ok (.getfield 76, 3) := by decide +kernel
theorem dX8_countPending_11 : decode cX8_countPending 11 = .ok (.if_icmp .ge 53, 3) := by decide +kernel
theorem dX8_countPending_14 : decode cX8_countPending 14 = .ok (.aload_n 0, 1) := by decide +kernel
theorem dX8_countPending_15 : decode cX8_countPending 15 = .ok (.getfield 31, 3) := by decide +kernel
theorem dX8_countPending_18 : decode cX8_countPending 18 = .ok (.iload 4, 2) := by decide +kernel
theorem dX8_countPending_20 : decode cX8_countPending 20 = .ok (.aaload, 1) := by decide +kernel
theorem dX8_countPending_21 : decode cX8_countPending 21 = .ok (.getfield 172, 3) := by decide +kernel
theorem dX8_countPending_24 : decode cX8_countPending 24 = .ok (.ifCond .eq 34, 3) := by decide +kernel
theorem dX8_countPending_27 : decode cX8_countPending 27 = .ok (.aload_n 0, 1) := by decide +kernel
theorem dX8_countPending_28 : decode cX8_countPending 28 = .ok (.getfield 31, 3) := by decide +kernel
theorem dX8_countPending_31 : decode cX8_countPending 31 = .ok (.iload 4, 2) := by decide +kernel
theorem dX8_countPending_33 : decode cX8_countPending 33 = .ok (.aaload, 1) := by decide +kernel
theorem dX8_countPending_34 : decode cX8_countPending 34 = .ok (.getfield 163, 3) := by decide +kernel
theorem dX8_countPending_37 : decode cX8_countPending 37 = .ok (.iload_n 1, 1) := by decide +kernel
theorem dX8_countPending_38 : decode cX8_countPending 38 = .ok (.if_icmp .ne 20, 3) := by decide +kernel
theorem dX8_countPending_41 : decode cX8_countPending 41 = .ok (.aload_n 0, 1) := by decide +kernel
theorem dX8_countPending_42 : decode cX8_countPending 42 = .ok (.getfield 31, 3) := by decide +kernel
theorem dX8_countPending_45 : decode cX8_countPending 45 = .ok (.iload 4, 2) := by decide +kernel
theorem dX8_countPending_47 : decode cX8_countPending 47 = .ok (.aaload, 1) := by decide +kernel
theorem dX8_countPending_48 : decode cX8_countPending 48 = .ok (.getfield 166, 3) := by decide +kernel
theorem dX8_countPending_51 : decode cX8_countPending 51 = .ok (.iload_n 2, 1) := by decide +kernel
theorem dX8_countPending_52 : decode cX8_countPending 52 = .ok (.if_icmp .ne 6, 3) := by decide +kernel
theorem dX8_countPending_55 : decode cX8_countPending 55 = .ok (.iinc 3 1, 3) := by decide +kernel
theorem dX8_countPending_58 : decode cX8_countPending 58 = .ok (.iinc 4 1, 3) := by decide +kernel
theorem dX8_countPending_61 : decode cX8_countPending 61 = .ok (.goto (-56), 3) := by decide +kernel
theorem dX8_countPending_64 : decode cX8_countPending 64 = .ok (.iload_n 3, 1) := by decide +kernel
theorem dX8_countPending_65 : decode cX8_countPending 65 = .ok (.ireturn, 1) := by decide +kernel
theorem dX8_lowestPendingProblem_0 : decode cX8_lowestPendingProblem 0 = .ok (.iconst 0, 1) := by decide +kernel
theorem dX8_lowestPendingProblem_1 : decode cX8_lowestPendingProblem 1 = .ok (.istore_n 2, 1) := by decide +kernel
theorem dX8_lowestPendingProblem_2 : decode cX8_lowestPendingProblem 2 = .ok (.iload_n 2, 1) := by decide +kernel
theorem dX8_lowestPendingProblem_3 : decode cX8_lowestPendingProblem 3 = .ok (.aload_n 0, 1) := by decide +kernel
theorem dX8_lowestPendingProblem_4 : decode cX8_lowestPendingProblem 4 = .ok (.getfield 69, 3) := by decide +kernel
theorem dX8_lowestPendingProblem_7 : decode cX8_lowestPendingProblem 7 = .ok (.if_icmp .ge 20, 3) := by decide +kernel
theorem dX8_lowestPendingProblem_10 : decode cX8_lowestPendingProblem 10 = .ok (.aload_n 0, 1) := by decide +kernel
theorem dX8_lowestPendingProblem_11 : decode cX8_lowestPendingProblem 11 = .ok (.iload_n 1, 1) := by decide +kernel
theorem dX8_lowestPendingProblem_12 : decode cX8_lowestPendingProblem 12 = .ok (.iload_n 2, 1) := by decide +kernel
theorem dX8_lowestPendingProblem_13 : decode cX8_lowestPendingProblem 13 = .ok (.invokevirtual 263, 3) := by decide +kernel
theorem dX8_lowestPendingProblem_16 : decode cX8_lowestPendingProblem 16 = .ok (.ifCond .le 5, 3) := by decide +kernel
theorem dX8_lowestPendingProblem_19 : decode cX8_lowestPendingProblem 19 = .ok (.iload_n 2, 1) := by decide +kernel
theorem dX8_lowestPendingProblem_20 : decode cX8_lowestPendingProblem 20 = .ok (.ireturn, 1) := by decide +kernel
theorem dX8_lowestPendingProblem_21 : decode cX8_lowestPendingProblem 21 = .ok (.iinc 2 1, 3) := by decide +kernel
theorem dX8_lowestPendingProblem_24 : decode cX8_lowestPendingProblem 24 = .ok (.goto (-22), 3) := by decide +kernel
theorem dX8_lowestPendingProblem_27 : decode cX8_lowestPendingProblem 27 = .ok (.iconst (-1), 1) := by decide +kernel
theorem dX8_lowestPendingProblem_28 : decode cX8_lowestPendingProblem 28 = .ok (.ireturn, 1) := by decide +kernel
theorem dX8_lowestPendingTeam_0 : decode cX8_lowestPendingTeam 0 = .ok (.aload_n 0, 1) := by decide +kernel
theorem dX8_lowestPendingTeam_1 : decode cX8_lowestPendingTeam 1 = .ok (.getfield 73, 3) := by decide +kernel
theorem dX8_lowestPendingTeam_4 : decode cX8_lowestPendingTeam 4 = .ok (.iconst 1, 1) := by decide +kernel
theorem dX8_lowestPendingTeam_5 : decode cX8_lowestPendingTeam 5 = .ok (.isub, 1) := by decide +kernel
theorem dX8_lowestPendingTeam_6 : decode cX8_lowestPendingTeam 6 = .ok (.istore_n 1, 1) := by decide +kernel
theorem dX8_lowestPendingTeam_7 : decode cX8_lowestPendingTeam 7 = .ok (.iload_n 1, 1) := by decide +kernel
theorem dX8_lowestPendingTeam_8 : decode cX8_lowestPendingTeam 8 = .ok (.ifCond .lt 30, 3) := by decide +kernel
theorem dX8_lowestPendingTeam_11 : decode cX8_lowestPendingTeam 11 = .ok (.aload_n 0, 1) := by decide +kernel
theorem dX8_lowestPendingTeam_12 : decode cX8_lowestPendingTeam 12 = .ok (.getfield 63, 3) := by decide +kernel
theorem dX8_lowestPendingTeam_15 : decode cX8_lowestPendingTeam 15 = .ok (.getfield 289, 3) := by decide +kernel
theorem dX8_lowestPendingTeam_18 : decode cX8_lowestPendingTeam 18 = .ok (.iload_n 1, 1) := by decide +kernel
theorem dX8_lowestPendingTeam_19 : decode cX8_lowestPendingTeam 19 = .ok (.iaload, 1) := by decide +kernel
theorem dX8_lowestPendingTeam_20 : decode cX8_lowestPendingTeam 20 = .ok (.istore_n 2, 1) := by decide +kernel
theorem dX8_lowestPendingTeam_21 : decode cX8_lowestPendingTeam 21 = .ok (.aload_n 0, 1) := by decide +kernel
theorem dX8_lowestPendingTeam_22 : decode cX8_lowestPendingTeam 22 = .ok (.iload_n 2, 1) := by decide +kernel
theorem dX8_lowestPendingTeam_23 : decode cX8_lowestPendingTeam 23 = .ok (.invokevirtual 269, 3) := by decide +kernel
theorem dX8_lowestPendingTeam_26 : decode cX8_lowestPendingTeam 26 = .ok (.iconst (-1), 1) := by decide +kernel
theorem dX8_lowestPendingTeam_27 : decode cX8_lowestPendingTeam 27 = .ok (.if_icmp .eq 5, 3) := by decide +kernel
theorem dX8_lowestPendingTeam_30 : decode cX8_lowestPendingTeam 30 = .ok (.iload_n 2, 1) := by decide +kernel
theorem dX8_lowestPendingTeam_31 : decode cX8_lowestPendingTeam 31 = .ok (.ireturn, 1) := by decide +kernel
theorem dX8_lowestPendingTeam_32 : decode cX8_lowestPendingTeam 32 = .ok (.iinc 1 (-1), 3) := by decide +kernel
theorem dX8_lowestPendingTeam_35 : decode cX8_lowestPendingTeam 35 = .ok (.goto (-28), 3) := by decide +kernel
theorem dX8_lowestPendingTeam_38 : decode cX8_lowestPendingTeam 38 = .ok (.iconst (-1), 1) := by decide +kernel
theorem dX8_lowestPendingTeam_39 : decode cX8_lowestPendingTeam 39 = .ok (.ireturn, 1) := by decide +kernel
theorem dX8_openRuns_0 : decode cX8_openRuns 0 = .ok (.iconst 0, 1) := by decide +kernel
theorem dX8_openRuns_1 : decode cX8_openRuns 1 = .ok (.istore_n 3, 1) := by decide +kernel
theorem dX8_openRuns_2 : decode cX8_openRuns 2 = .ok (.iload_n 3, 1) := by decide +kernel
theorem dX8_openRuns_3 : decode cX8_openRuns 3 = .ok (.aload_n 0, 1) := by decide +kernel
theorem dX8_openRuns_4 : decode cX8_openRuns 4 = .ok (.getfield 76, 3) := by decide +kernel
theorem dX8_openRuns_7 : decode cX8_openRuns 7 = .ok (.if_icmp .ge 45, 3) := by decide +kernel
theorem dX8_openRuns_10 : decode cX8_openRuns 10 = .ok (.aload_n 0, 1) := by decide +kernel
theorem dX8_openRuns_11 : decode cX8_openRuns 11 = .ok (.getfield 31, 3) := by decide +kernel
theorem dX8_openRuns_14 : decode cX8_openRuns 14 = .ok (.iload_n 3, 1) := by decide +kernel
theorem dX8_openRuns_15 : decode cX8_openRuns 15 = .ok (.aaload, 1) := by decide +kernel
theorem dX8_openRuns_16 : decode cX8_openRuns 16 = .ok (.getfield 163, 3) := by decide +kernel
theorem dX8_openRuns_19 : decode cX8_openRuns 19 = .ok (.iload_n 1, 1) := by decide +kernel
theorem dX8_openRuns_20 : decode cX8_openRuns 20 = .ok (.if_icmp .ne 26, 3) := by decide +kernel
theorem dX8_openRuns_23 : decode cX8_openRuns 23 = .ok (.aload_n 0, 1) := by decide +kernel
theorem dX8_openRuns_24 : decode cX8_openRuns 24 = .ok (.getfield 31, 3) := by decide +kernel
theorem dX8_openRuns_27 : decode cX8_openRuns 27 = .ok (.iload_n 3, 1) := by decide +kernel
theorem dX8_openRuns_28 : decode cX8_openRuns 28 = .ok (.aaload, 1) := by decide +kernel
theorem dX8_openRuns_29 : decode cX8_openRuns 29 = .ok (.getfield 166, 3) := by decide +kernel
theorem dX8_openRuns_32 : decode cX8_openRuns 32 = .ok (.iload_n 2, 1) := by decide +kernel
theorem dX8_openRuns_33 : decode cX8_openRuns 33 = .ok (.if_icmp .ne 13, 3) := by decide +kernel
theorem dX8_openRuns_36 : decode cX8_openRuns 36 = .ok (.aload_n 0, 1) := by decide +kernel
theorem dX8_openRuns_37 : decode cX8_openRuns 37 = .ok (.getfield 31, 3) := by decide +kernel
theorem dX8_openRuns_40 : decode cX8_openRuns 40 = .ok (.iload_n 3, 1) := by decide +kernel
theorem dX8_openRuns_41 : decode cX8_openRuns 41 = .ok (.aaload, 1) := by decide +kernel
theorem dX8_openRuns_42 : decode cX8_openRuns 42 = .ok (.iconst 0, 1) := by decide +kernel
theorem dX8_openRuns_43 : decode cX8_openRuns 43 = .ok (.putfield 172, 3) := by decide +kernel
theorem dX8_openRuns_46 : decode cX8_openRuns 46 = .ok (.iinc 3 1, 3) := by decide +kernel
theorem dX8_openRuns_49 : decode cX8_openRuns 49 = .ok (.goto (-47), 3) := by decide +kernel
theorem dX8_openRuns_52 : decode cX8_openRuns 52 = .ok (.return_, 1) := by decide +kernel
theorem dX8_isRankedAnew_0 : decode cX8_isRankedAnew 0 = .ok (.aload_n 0, 1) := by decide +kernel
theorem dX8_isRankedAnew_1 : decode cX8_isRankedAnew 1 = .ok (.getfield 66, 3) := by decide +kernel
theorem dX8_isRankedAnew_4 : decode cX8_isRankedAnew 4 = .ok (.aload_n 0, 1) := by decide +kernel
theorem dX8_isRankedAnew_5 : decode cX8_isRankedAnew 5 = .ok (.getfield 31, 3) := by decide +kernel
theorem dX8_isRankedAnew_8 : decode cX8_isRankedAnew 8 = .ok (.aload_n 0, 1) := by decide +kernel
theorem dX8_isRankedAnew_9 : decode cX8_isRankedAnew 9 = .ok (.getfield 76, 3) := by decide +kernel
theorem dX8_isRankedAnew_12 : decode cX8_isRankedAnew 12 = .ok (.aload_n 0, 1) := by decide +kernel
theorem dX8_isRankedAnew_13 : decode cX8_isRankedAnew 13 = .ok (.getfield 73, 3) := by decide +kernel
theorem dX8_isRankedAnew_16 : decode cX8_isRankedAnew 16 = .ok (.iload_n 1, 1) := by decide +kernel
theorem dX8_isRankedAnew_17 : decode cX8_isRankedAnew 17 = .ok (.invokevirtual 325, 3) := by decide +kernel
theorem dX8_isRankedAnew_20 : decode cX8_isRankedAnew 20 = .ok (.aload_n 0, 1) := by decide +kernel
theorem dX8_isRankedAnew_21 : decode cX8_isRankedAnew 21 = .ok (.getfield 66, 3) := by decide +kernel
theorem dX8_isRankedAnew_24 : decode cX8_isRankedAnew 24 = .ok (.aload_n 0, 1) := by decide +kernel
theorem dX8_isRankedAnew_25 : decode cX8_isRankedAnew 25 = .ok (.iload_n 1, 1) := by decide +kernel
theorem dX8_isRankedAnew_26 : decode cX8_isRankedAnew 26 = .ok (.invokevirtual 276, 3) := by decide +kernel
theorem dX8_isRankedAnew_29 : decode cX8_isRankedAnew 29 = .ok (.invokevirtual 359, 3) := by decide +kernel
theorem dX8_isRankedAnew_32 : decode cX8_isRankedAnew 32 = .ok (.ireturn, 1) := by decide +kernel
theorem dX8_areBalloonsEarned_0 : decode cX8_areBalloonsEarned 0 = .ok (.aload_n 0, 1) := by decide +kernel
theorem dX8_areBalloonsEarned_1 : decode cX8_areBalloonsEarned 1 = .ok (.getfield 66, 3) := by decide +kernel
theorem dX8_areBalloonsEarned_4 : decode cX8_areBalloonsEarned 4 = .ok (.aload_n 0, 1) := by decide +kernel
theorem dX8_areBalloonsEarned_5 : decode cX8_areBalloonsEarned 5 = .ok (.getfield 31, 3) := by decide +kernel
theorem dX8_areBalloonsEarned_8 : decode cX8_areBalloonsEarned 8 = .ok (.aload_n 0, 1) := by decide +kernel
theorem dX8_areBalloonsEarned_9 : decode cX8_areBalloonsEarned 9 = .ok (.getfield 76, 3) := by decide +kernel
theorem dX8_areBalloonsEarned_12 : decode cX8_areBalloonsEarned 12 = .ok (.aload_n 0, 1) := by decide +kernel
theorem dX8_areBalloonsEarned_13 : decode cX8_areBalloonsEarned 13 = .ok (.getfield 73, 3) := by decide +kernel
theorem dX8_areBalloonsEarned_16 : decode cX8_areBalloonsEarned 16 = .ok (.iconst 0, 1) := by decide +kernel
theorem dX8_areBalloonsEarned_17 : decode cX8_areBalloonsEarned 17 = .ok (.invokevirtual 325, 3) := by decide +kernel
theorem dX8_areBalloonsEarned_20 : decode cX8_areBalloonsEarned 20 = .ok (.iconst 0, 1) := by decide +kernel
theorem dX8_areBalloonsEarned_21 : decode cX8_areBalloonsEarned 21 = .ok (.istore_n 1, 1) := by decide +kernel
theorem dX8_areBalloonsEarned_22 : decode cX8_areBalloonsEarned 22 = .ok (.iload_n 1, 1) := by decide +kernel
theorem dX8_areBalloonsEarned_23 : decode cX8_areBalloonsEarned 23 = .ok (.aload_n 0, 1) := by decide +kernel
theorem dX8_areBalloonsEarned_24 : decode cX8_areBalloonsEarned 24 = .ok (.getfield 73, 3) := by decide +kernel
theorem dX8_areBalloonsEarned_27 : decode cX8_areBalloonsEarned 27 = .ok (.if_icmp .ge 67, 3) := by decide +kernel
theorem dX8_areBalloonsEarned_30 : decode cX8_areBalloonsEarned 30 = .ok (.iconst 0, 1) := by decide +kernel
theorem dX8_areBalloonsEarned_31 : decode cX8_areBalloonsEarned 31 = .ok (.istore_n 2, 1) := by decide +kernel
theorem dX8_areBalloonsEarned_32 : decode cX8_areBalloonsEarned 32 = .ok (.iload_n 2, 1) := by decide +kernel
theorem dX8_areBalloonsEarned_33 : decode cX8_areBalloonsEarned 33 = .ok (.aload_n 0, 1) := by decide +kernel
theorem dX8_areBalloonsEarned_34 : decode cX8_areBalloonsEarned 34 = .ok (.getfield 69, 3) := by decide +kernel
theorem dX8_areBalloonsEarned_37 : decode cX8_areBalloonsEarned 37 = .ok (.if_icmp .ge 51, 3) := by decide +kernel
theorem dX8_areBalloonsEarned_40 : decode cX8_areBalloonsEarned 40 = .ok (.iload_n 1, 1) := by decide +kernel
theorem dX8_areBalloonsEarned_41 : decode cX8_areBalloonsEarned 41 = .ok (.iload_n 2, 1) := by decide +kernel
theorem dX8_areBalloonsEarned_42 : decode cX8_areBalloonsEarned 42 = .ok (.invokestatic 244, 3) := by decide +kernel
theorem dX8_areBalloonsEarned_45 : decode cX8_areBalloonsEarned 45 = .ok (.istore_n 3, 1) := by decide +kernel
theorem dX8_areBalloonsEarned_46 : decode cX8_areBalloonsEarned 46 = .ok (.aload_n 0, 1) := by decide +kernel
theorem dX8_areBalloonsEarned_47 : decode cX8_areBalloonsEarned 47 = .ok (.getfield 52, 3) := by decide +kernel
theorem dX8_areBalloonsEarned_50 : decode cX8_areBalloonsEarned 50 = .ok (.getfield 241, 3) := by decide +kernel
theorem dX8_areBalloonsEarned_53 : decode cX8_areBalloonsEarned 53 = .ok (.iload_n 3, 1) := by decide +kernel
theorem dX8_areBalloonsEarned_54 : decode cX8_areBalloonsEarned 54 = .ok (.caload, 1) := by decide +kernel
theorem dX8_areBalloonsEarned_55 : decode cX8_areBalloonsEarned 55 = .ok (.bipush 45, 2) := by decide +kernel
theorem dX8_areBalloonsEarned_57 : decode cX8_areBalloonsEarned 57 = .ok (.if_icmp .eq 7, 3) := by decide +kernel
theorem dX8_areBalloonsEarned_60 : decode cX8_areBalloonsEarned 60 = .ok (.iconst 1, 1) := by decide +kernel
theorem dX8_areBalloonsEarned_61 : decode cX8_areBalloonsEarned 61 = .ok (.goto 4, 3) := by decide +kernel
theorem dX8_areBalloonsEarned_64 : decode cX8_areBalloonsEarned 64 = .ok (.iconst 0, 1) := by decide +kernel
theorem dX8_areBalloonsEarned_65 : decode cX8_areBalloonsEarned 65 = .ok (.istore 4, 2) := by decide +kernel
theorem dX8_areBalloonsEarned_67 : decode cX8_areBalloonsEarned 67 = .ok (.iload 4, 2) := by decide +kernel
theorem dX8_areBalloonsEarned_69 : decode cX8_areBalloonsEarned 69 = .ok (.aload_n 0, 1) := by decide +kernel
theorem dX8_areBalloonsEarned_70 : decode cX8_areBalloonsEarned 70 = .ok (.getfield 66, 3) := by decide +kernel
theorem dX8_areBalloonsEarned_73 : decode cX8_areBalloonsEarned 73 = .ok (.iload_n 3, 1) := by decide +kernel
theorem dX8_areBalloonsEarned_74 : decode cX8_areBalloonsEarned 74 = .ok (.invokevirtual 363, 3) := by decide +kernel
theorem dX8_areBalloonsEarned_77 : decode cX8_areBalloonsEarned 77 = .ok (.if_icmp .eq 5, 3) := by decide +kernel
theorem dX8_areBalloonsEarned_80 : decode cX8_areBalloonsEarned 80 = .ok (.iconst 0, 1) := by decide +kernel
theorem dX8_areBalloonsEarned_81 : decode cX8_areBalloonsEarned 81 = .ok (.ireturn, 1) := by decide +kernel
theorem dX8_areBalloonsEarned_82 : decode cX8_areBalloonsEarned 82 = .ok (.iinc 2 1, 3) := by decide +kernel
theorem dX8_areBalloonsEarned_85 : decode cX8_areBalloonsEarned 85 = .ok (.goto (-53), 3) := by decide +kernel
theorem dX8_areBalloonsEarned_88 : decode cX8_areBalloonsEarned 88 = .ok (.iinc 1 1, 3) := by decide +kernel
theorem dX8_areBalloonsEarned_91 : decode cX8_areBalloonsEarned 91 = .ok (.goto (-69), 3) := by decide +kernel
theorem dX8_areBalloonsEarned_94 : decode cX8_areBalloonsEarned 94 = .ok (.iconst 1, 1) := by decide +kernel
theorem dX8_areBalloonsEarned_95 : decode cX8_areBalloonsEarned 95 = .ok (.ireturn, 1) := by decide +kernel
theorem dX8_areOutputsAnew_0 : decode cX8_areOutputsAnew 0 = .ok (.iconst 0, 1) := by decide +kernel
theorem dX8_areOutputsAnew_1 : decode cX8_areOutputsAnew 1 = .ok (.istore_n 1, 1) := by decide +kernel
theorem dX8_areOutputsAnew_2 : decode cX8_areOutputsAnew 2 = .ok (.iload_n 1, 1) := by decide +kernel
theorem dX8_areOutputsAnew_3 : decode cX8_areOutputsAnew 3 = .ok (.aload_n 0, 1) := by decide +kernel
theorem dX8_areOutputsAnew_4 : decode cX8_areOutputsAnew 4 = .ok (.getfield 76, 3) := by decide +kernel
theorem dX8_areOutputsAnew_7 : decode cX8_areOutputsAnew 7 = .ok (.if_icmp .ge 103, 3) := by decide +kernel
theorem dX8_areOutputsAnew_10 : decode cX8_areOutputsAnew 10 = .ok (.aload_n 0, 1) := by decide +kernel
theorem dX8_areOutputsAnew_11 : decode cX8_areOutputsAnew 11 = .ok (.getfield 25, 3) := by decide +kernel
theorem dX8_areOutputsAnew_14 : decode cX8_areOutputsAnew 14 = .ok (.aload_n 0, 1) := by decide +kernel
theorem dX8_areOutputsAnew_15 : decode cX8_areOutputsAnew 15 = .ok (.getfield 31, 3) := by decide +kernel
theorem dX8_areOutputsAnew_18 : decode cX8_areOutputsAnew 18 = .ok (.iload_n 1, 1) := by decide +kernel
theorem dX8_areOutputsAnew_19 : decode cX8_areOutputsAnew 19 = .ok (.aaload, 1) := by decide +kernel
theorem dX8_areOutputsAnew_20 : decode cX8_areOutputsAnew 20 = .ok (.getfield 166, 3) := by decide +kernel
theorem dX8_areOutputsAnew_23 : decode cX8_areOutputsAnew 23 = .ok (.aaload, 1) := by decide +kernel
theorem dX8_areOutputsAnew_24 : decode cX8_areOutputsAnew 24 = .ok (.astore_n 2, 1) := by decide +kernel
theorem dX8_areOutputsAnew_25 : decode cX8_areOutputsAnew 25 = .ok (.iconst 0, 1) := by decide +kernel
theorem dX8_areOutputsAnew_26 : decode cX8_areOutputsAnew 26 = .ok (.istore_n 3, 1) := by decide +kernel
theorem dX8_areOutputsAnew_27 : decode cX8_areOutputsAnew 27 = .ok (.iload_n 3, 1) := by decide +kernel
theorem dX8_areOutputsAnew_28 : decode cX8_areOutputsAnew 28 = .ok (.aload_n 2, 1) := by decide +kernel
theorem dX8_areOutputsAnew_29 : decode cX8_areOutputsAnew 29 = .ok (.getfield 136, 3) := by decide +kernel
theorem dX8_areOutputsAnew_32 : decode cX8_areOutputsAnew 32 = .ok (.if_icmp .ge 72, 3) := by decide +kernel
theorem dX8_areOutputsAnew_35 : decode cX8_areOutputsAnew 35 = .ok (.aload_n 0, 1) := by decide +kernel
theorem dX8_areOutputsAnew_36 : decode cX8_areOutputsAnew 36 = .ok (.getfield 38, 3) := by decide +kernel
theorem dX8_areOutputsAnew_39 : decode cX8_areOutputsAnew 39 = .ok (.aload_n 0, 1) := by decide +kernel
theorem dX8_areOutputsAnew_40 : decode cX8_areOutputsAnew 40 = .ok (.getfield 31, 3) := by decide +kernel
theorem dX8_areOutputsAnew_43 : decode cX8_areOutputsAnew 43 = .ok (.iload_n 1, 1) := by decide +kernel
theorem dX8_areOutputsAnew_44 : decode cX8_areOutputsAnew 44 = .ok (.aaload, 1) := by decide +kernel
theorem dX8_areOutputsAnew_45 : decode cX8_areOutputsAnew 45 = .ok (.getfield 176, 3) := by decide +kernel
theorem dX8_areOutputsAnew_48 : decode cX8_areOutputsAnew 48 = .ok (.aload_n 2, 1) := by decide +kernel
theorem dX8_areOutputsAnew_49 : decode cX8_areOutputsAnew 49 = .ok (.getfield 139, 3) := by decide +kernel
theorem dX8_areOutputsAnew_52 : decode cX8_areOutputsAnew 52 = .ok (.iload_n 3, 1) := by decide +kernel
theorem dX8_areOutputsAnew_53 : decode cX8_areOutputsAnew 53 = .ok (.aaload, 1) := by decide +kernel
theorem dX8_areOutputsAnew_54 : decode cX8_areOutputsAnew 54 = .ok (.aload_n 2, 1) := by decide +kernel
theorem dX8_areOutputsAnew_55 : decode cX8_areOutputsAnew 55 = .ok (.getfield 127, 3) := by decide +kernel
theorem dX8_areOutputsAnew_58 : decode cX8_areOutputsAnew 58 = .ok (.invokevirtual 336, 3) := by decide +kernel
theorem dX8_areOutputsAnew_61 : decode cX8_areOutputsAnew 61 = .ok (.aload_n 0, 1) := by decide +kernel
theorem dX8_areOutputsAnew_62 : decode cX8_areOutputsAnew 62 = .ok (.getfield 45, 3) := by decide +kernel
theorem dX8_areOutputsAnew_65 : decode cX8_areOutputsAnew 65 = .ok (.aload_n 0, 1) := by decide +kernel
theorem dX8_areOutputsAnew_66 : decode cX8_areOutputsAnew 66 = .ok (.getfield 31, 3) := by decide +kernel
theorem dX8_areOutputsAnew_69 : decode cX8_areOutputsAnew 69 = .ok (.iload_n 1, 1) := by decide +kernel
theorem dX8_areOutputsAnew_70 : decode cX8_areOutputsAnew 70 = .ok (.aaload, 1) := by decide +kernel
theorem dX8_areOutputsAnew_71 : decode cX8_areOutputsAnew 71 = .ok (.getfield 212, 3) := by decide +kernel
theorem dX8_areOutputsAnew_74 : decode cX8_areOutputsAnew 74 = .ok (.iload_n 3, 1) := by decide +kernel
theorem dX8_areOutputsAnew_75 : decode cX8_areOutputsAnew 75 = .ok (.iaload, 1) := by decide +kernel
theorem dX8_areOutputsAnew_76 : decode cX8_areOutputsAnew 76 = .ok (.aload_n 0, 1) := by decide +kernel
theorem dX8_areOutputsAnew_77 : decode cX8_areOutputsAnew 77 = .ok (.getfield 38, 3) := by decide +kernel
theorem dX8_areOutputsAnew_80 : decode cX8_areOutputsAnew 80 = .ok (.getfield 343, 3) := by decide +kernel
theorem dX8_areOutputsAnew_83 : decode cX8_areOutputsAnew 83 = .ok (.aload_n 0, 1) := by decide +kernel
theorem dX8_areOutputsAnew_84 : decode cX8_areOutputsAnew 84 = .ok (.getfield 38, 3) := by decide +kernel
theorem dX8_areOutputsAnew_87 : decode cX8_areOutputsAnew 87 = .ok (.getfield 346, 3) := by decide +kernel
theorem dX8_areOutputsAnew_90 : decode cX8_areOutputsAnew 90 = .ok (.invokevirtual 366, 3) := by decide +kernel
theorem dX8_areOutputsAnew_93 : decode cX8_areOutputsAnew 93 = .ok (.ifCond .ne 5, 3) := by decide +kernel
theorem dX8_areOutputsAnew_96 : decode cX8_areOutputsAnew 96 = .ok (.iconst 0, 1) := by decide +kernel
theorem dX8_areOutputsAnew_97 : decode cX8_areOutputsAnew 97 = .ok (.ireturn, 1) := by decide +kernel
theorem dX8_areOutputsAnew_98 : decode cX8_areOutputsAnew 98 = .ok (.iinc 3 1, 3) := by decide +kernel
theorem dX8_areOutputsAnew_101 : decode cX8_areOutputsAnew 101 = .ok (.goto (-74), 3) := by decide +kernel
theorem dX8_areOutputsAnew_104 : decode cX8_areOutputsAnew 104 = .ok (.iinc 1 1, 3) := by decide +kernel
theorem dX8_areOutputsAnew_107 : decode cX8_areOutputsAnew 107 = .ok (.goto (-105), 3) := by decide +kernel
theorem dX8_areOutputsAnew_110 : decode cX8_areOutputsAnew 110 = .ok (.iconst 1, 1) := by decide +kernel
theorem dX8_areOutputsAnew_111 : decode cX8_areOutputsAnew 111 = .ok (.ireturn, 1) := by decide +kernel
