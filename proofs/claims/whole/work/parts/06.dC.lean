theorem dX9_init_0 : decode cX9_init 0 = .ok (.aload_n 0, 1) := by decide +kernel
theorem dX9_init_1 : decode cX9_init 1 = .ok (.invokespecial 1, 3) := by decide +kernel
theorem dX9_init_4 : decode cX9_init 4 = .ok (.aload_n 0, 1) := by decide +kernel
theorem dX9_init_5 : decode cX9_init 5 = .ok (.bipush 20, 2) := by decide +kernel
theorem dX9_init_7 : decode cX9_init 7 = .ok (.newarray .char, 2) := by decide +kernel
theorem dX9_init_9 : decode cX9_init 9 = .ok (.putfield 7, 3) := by decide +kernel
theorem dX9_init_12 : decode cX9_init 12 = .ok (.aload_n 0, 1) := by decide +kernel
theorem dX9_init_13 : decode cX9_init 13 = .ok (.bipush 20, 2) := by decide +kernel
theorem dX9_init_15 : decode cX9_init 15 = .ok (.newarray .int, 2) := by decide +kernel
theorem dX9_init_17 : decode cX9_init 17 = .ok (.putfield 13, 3) := by decide +kernel
theorem dX9_init_20 : decode cX9_init 20 = .ok (.aload_n 0, 1) := by decide +kernel
theorem dX9_init_21 : decode cX9_init 21 = .ok (.bipush 20, 2) := by decide +kernel
theorem dX9_init_23 : decode cX9_init 23 = .ok (.newarray .int, 2) := by decide +kernel
theorem dX9_init_25 : decode cX9_init 25 = .ok (.putfield 17, 3) := by decide +kernel
theorem dX9_init_28 : decode cX9_init 28 = .ok (.aload_n 0, 1) := by decide +kernel
theorem dX9_init_29 : decode cX9_init 29 = .ok (.iconst 4, 1) := by decide +kernel
theorem dX9_init_30 : decode cX9_init 30 = .ok (.newarray .int, 2) := by decide +kernel
theorem dX9_init_32 : decode cX9_init 32 = .ok (.putfield 20, 3) := by decide +kernel
theorem dX9_init_35 : decode cX9_init 35 = .ok (.aload_n 0, 1) := by decide +kernel
theorem dX9_init_36 : decode cX9_init 36 = .ok (.bipush 6, 2) := by decide +kernel
theorem dX9_init_38 : decode cX9_init 38 = .ok (.newarray .int, 2) := by decide +kernel
theorem dX9_init_40 : decode cX9_init 40 = .ok (.putfield 23, 3) := by decide +kernel
theorem dX9_init_43 : decode cX9_init 43 = .ok (.aload_n 0, 1) := by decide +kernel
theorem dX9_init_44 : decode cX9_init 44 = .ok (.iconst 5, 1) := by decide +kernel
theorem dX9_init_45 : decode cX9_init 45 = .ok (.newarray .int, 2) := by decide +kernel
theorem dX9_init_47 : decode cX9_init 47 = .ok (.putfield 26, 3) := by decide +kernel
theorem dX9_init_50 : decode cX9_init 50 = .ok (.aload_n 0, 1) := by decide +kernel
theorem dX9_init_51 : decode cX9_init 51 = .ok (.iconst 5, 1) := by decide +kernel
theorem dX9_init_52 : decode cX9_init 52 = .ok (.newarray .int, 2) := by decide +kernel
theorem dX9_init_54 : decode cX9_init 54 = .ok (.putfield 29, 3) := by decide +kernel
theorem dX9_init_57 : decode cX9_init 57 = .ok (.aload_n 0, 1) := by decide +kernel
theorem dX9_init_58 : decode cX9_init 58 = .ok (.iconst 5, 1) := by decide +kernel
theorem dX9_init_59 : decode cX9_init 59 = .ok (.newarray .int, 2) := by decide +kernel
theorem dX9_init_61 : decode cX9_init 61 = .ok (.putfield 32, 3) := by decide +kernel
theorem dX9_init_64 : decode cX9_init 64 = .ok (.aload_n 0, 1) := by decide +kernel
theorem dX9_init_65 : decode cX9_init 65 = .ok (.bipush 120, 2) := by decide +kernel
theorem dX9_init_67 : decode cX9_init 67 = .ok (.newarray .int, 2) := by decide +kernel
theorem dX9_init_69 : decode cX9_init 69 = .ok (.putfield 35, 3) := by decide +kernel
theorem dX9_init_72 : decode cX9_init 72 = .ok (.aload_n 0, 1) := by decide +kernel
theorem dX9_init_73 : decode cX9_init 73 = .ok (.bipush 30, 2) := by decide +kernel
theorem dX9_init_75 : decode cX9_init 75 = .ok (.newarray .int, 2) := by decide +kernel
theorem dX9_init_77 : decode cX9_init 77 = .ok (.putfield 38, 3) := by decide +kernel
theorem dX9_init_80 : decode cX9_init 80 = .ok (.aload_n 0, 1) := by decide +kernel
theorem dX9_init_81 : decode cX9_init 81 = .ok (.sipush 180, 3) := by decide +kernel
theorem dX9_init_84 : decode cX9_init 84 = .ok (.newarray .int, 2) := by decide +kernel
theorem dX9_init_86 : decode cX9_init 86 = .ok (.putfield 41, 3) := by decide +kernel
theorem dX9_init_89 : decode cX9_init 89 = .ok (.aload_n 0, 1) := by decide +kernel
theorem dX9_init_90 : decode cX9_init 90 = .ok (.bipush 30, 2) := by decide +kernel
theorem dX9_init_92 : decode cX9_init 92 = .ok (.newarray .int, 2) := by decide +kernel
theorem dX9_init_94 : decode cX9_init 94 = .ok (.putfield 44, 3) := by decide +kernel
theorem dX9_init_97 : decode cX9_init 97 = .ok (.aload_n 0, 1) := by decide +kernel
theorem dX9_init_98 : decode cX9_init 98 = .ok (.bipush 40, 2) := by decide +kernel
theorem dX9_init_100 : decode cX9_init 100 = .ok (.newarray .int, 2) := by decide +kernel
theorem dX9_init_102 : decode cX9_init 102 = .ok (.putfield 47, 3) := by decide +kernel
theorem dX9_init_105 : decode cX9_init 105 = .ok (.aload_n 0, 1) := by decide +kernel
theorem dX9_init_106 : decode cX9_init 106 = .ok (.bipush 40, 2) := by decide +kernel
theorem dX9_init_108 : decode cX9_init 108 = .ok (.newarray .int, 2) := by decide +kernel
theorem dX9_init_110 : decode cX9_init 110 = .ok (.putfield 50, 3) := by decide +kernel
theorem dX9_init_113 : decode cX9_init 113 = .ok (.aload_n 0, 1) := by decide +kernel
theorem dX9_init_114 : decode cX9_init 114 = .ok (.bipush 40, 2) := by decide +kernel
theorem dX9_init_116 : decode cX9_init 116 = .ok (.newarray .int, 2) := by decide +kernel
theorem dX9_init_118 : decode cX9_init 118 = .ok (.putfield 53, 3) := by decide +kernel
theorem dX9_init_121 : decode cX9_init 121 = .ok (.aload_n 0, 1) := by decide +kernel
theorem dX9_init_122 : decode cX9_init 122 = .ok (.bipush 40, 2) := by decide +kernel
theorem dX9_init_124 : decode cX9_init 124 = .ok (.newarray .int, 2) := by decide +kernel
theorem dX9_init_126 : decode cX9_init 126 = .ok (.putfield 56, 3) := by decide +kernel
theorem dX9_init_129 : decode cX9_init 129 = .ok (.aload_n 0, 1) := by decide +kernel
theorem dX9_init_130 : decode cX9_init 130 = .ok (.sipush 800, 3) := by decide +kernel
theorem dX9_init_133 : decode cX9_init 133 = .ok (.newarray .char, 2) := by decide +kernel
theorem dX9_init_135 : decode cX9_init 135 = .ok (.putfield 59, 3) := by decide +kernel
theorem dX9_init_138 : decode cX9_init 138 = .ok (.aload_n 0, 1) := by decide +kernel
theorem dX9_init_139 : decode cX9_init 139 = .ok (.sipush 800, 3) := by decide +kernel
theorem dX9_init_142 : decode cX9_init 142 = .ok (.newarray .int, 2) := by decide +kernel
theorem dX9_init_144 : decode cX9_init 144 = .ok (.putfield 62, 3) := by decide +kernel
theorem dX9_init_147 : decode cX9_init 147 = .ok (.aload_n 0, 1) := by decide +kernel
theorem dX9_init_148 : decode cX9_init 148 = .ok (.sipush 800, 3) := by decide +kernel
theorem dX9_init_151 : decode cX9_init 151 = .ok (.newarray .int, 2) := by decide +kernel
theorem dX9_init_153 : decode cX9_init 153 = .ok (.putfield 65, 3) := by decide +kernel
theorem dX9_init_156 : decode cX9_init 156 = .ok (.aload_n 0, 1) := by decide +kernel
theorem dX9_init_157 : decode cX9_init 157 = .ok (.sipush 240, 3) := by decide +kernel
theorem dX9_init_160 : decode cX9_init 160 = .ok (.newarray .char, 2) := by decide +kernel
theorem dX9_init_162 : decode cX9_init 162 = .ok (.putfield 68, 3) := by decide +kernel
theorem dX9_init_165 : decode cX9_init 165 = .ok (.aload_n 0, 1) := by decide +kernel
theorem dX9_init_166 : decode cX9_init 166 = .ok (.sipush 240, 3) := by decide +kernel
theorem dX9_init_169 : decode cX9_init 169 = .ok (.newarray .int, 2) := by decide +kernel
theorem dX9_init_171 : decode cX9_init 171 = .ok (.putfield 71, 3) := by decide +kernel
theorem dX9_init_174 : decode cX9_init 174 = .ok (.aload_n 0, 1) := by decide +kernel
theorem dX9_init_175 : decode cX9_init 175 = .ok (.sipush 1440, 3) := by decide +kernel
theorem dX9_init_178 : decode cX9_init 178 = .ok (.newarray .int, 2) := by decide +kernel
theorem dX9_init_180 : decode cX9_init 180 = .ok (.putfield 74, 3) := by decide +kernel
theorem dX9_init_183 : decode cX9_init 183 = .ok (.aload_n 0, 1) := by decide +kernel
theorem dX9_init_184 : decode cX9_init 184 = .ok (.sipush 240, 3) := by decide +kernel
theorem dX9_init_187 : decode cX9_init 187 = .ok (.newarray .int, 2) := by decide +kernel
theorem dX9_init_189 : decode cX9_init 189 = .ok (.putfield 77, 3) := by decide +kernel
theorem dX9_init_192 : decode cX9_init 192 = .ok (.aload_n 0, 1) := by decide +kernel
theorem dX9_init_193 : decode cX9_init 193 = .ok (.iconst 4, 1) := by decide +kernel
theorem dX9_init_194 : decode cX9_init 194 = .ok (.newarray .int, 2) := by decide +kernel
theorem dX9_init_196 : decode cX9_init 196 = .ok (.putfield 80, 3) := by decide +kernel
theorem dX9_init_199 : decode cX9_init 199 = .ok (.aload_n 0, 1) := by decide +kernel
theorem dX9_init_200 : decode cX9_init 200 = .ok (.bipush 40, 2) := by decide +kernel
theorem dX9_init_202 : decode cX9_init 202 = .ok (.newarray .char, 2) := by decide +kernel
theorem dX9_init_204 : decode cX9_init 204 = .ok (.putfield 83, 3) := by decide +kernel
theorem dX9_init_207 : decode cX9_init 207 = .ok (.aload_n 0, 1) := by decide +kernel
theorem dX9_init_208 : decode cX9_init 208 = .ok (.bipush 40, 2) := by decide +kernel
theorem dX9_init_210 : decode cX9_init 210 = .ok (.newarray .int, 2) := by decide +kernel
theorem dX9_init_212 : decode cX9_init 212 = .ok (.putfield 86, 3) := by decide +kernel
theorem dX9_init_215 : decode cX9_init 215 = .ok (.aload_n 0, 1) := by decide +kernel
theorem dX9_init_216 : decode cX9_init 216 = .ok (.iconst 4, 1) := by decide +kernel
theorem dX9_init_217 : decode cX9_init 217 = .ok (.newarray .int, 2) := by decide +kernel
theorem dX9_init_219 : decode cX9_init 219 = .ok (.putfield 89, 3) := by decide +kernel
theorem dX9_init_222 : decode cX9_init 222 = .ok (.aload_n 0, 1) := by decide +kernel
theorem dX9_init_223 : decode cX9_init 223 = .ok (.iconst (-1), 1) := by decide +kernel
theorem dX9_init_224 : decode cX9_init 224 = .ok (.putfield 92, 3) := by decide +kernel
theorem dX9_init_227 : decode cX9_init 227 = .ok (.aload_n 0, 1) := by decide +kernel
theorem dX9_init_228 : decode cX9_init 228 = .ok (.bipush 40, 2) := by decide +kernel
theorem dX9_init_230 : decode cX9_init 230 = .ok (.newarray .boolean, 2) := by decide +kernel
theorem dX9_init_232 : decode cX9_init 232 = .ok (.putfield 96, 3) := by decide +kernel
theorem dX9_init_235 : decode cX9_init 235 = .ok (.return_, 1) := by decide +kernel
theorem dX9_thrown_0 : decode cX9_thrown 0 = .ok (.aload_n 0, 1) := by decide +kernel
theorem dX9_thrown_1 : decode cX9_thrown 1 = .ok (.getfield 100, 3) := by decide +kernel
theorem dX9_thrown_4 : decode cX9_thrown 4 = .ok (.ireturn, 1) := by decide +kernel
theorem dX9_fails_0 : decode cX9_fails 0 = .ok (.aload_n 0, 1) := by decide +kernel
theorem dX9_fails_1 : decode cX9_fails 1 = .ok (.iload_n 1, 1) := by decide +kernel
theorem dX9_fails_2 : decode cX9_fails 2 = .ok (.putfield 100, 3) := by decide +kernel
theorem dX9_fails_5 : decode cX9_fails 5 = .ok (.iload_n 1, 1) := by decide +kernel
theorem dX9_fails_6 : decode cX9_fails 6 = .ok (.ifCond .le 7, 3) := by decide +kernel
theorem dX9_fails_9 : decode cX9_fails 9 = .ok (.iconst 1, 1) := by decide +kernel
theorem dX9_fails_10 : decode cX9_fails 10 = .ok (.goto 4, 3) := by decide +kernel
theorem dX9_fails_13 : decode cX9_fails 13 = .ok (.iconst 0, 1) := by decide +kernel
theorem dX9_fails_14 : decode cX9_fails 14 = .ok (.ireturn, 1) := by decide +kernel
theorem dX9_in_0 : decode cX9_in 0 = .ok (.iload_n 0, 1) := by decide +kernel
theorem dX9_in_1 : decode cX9_in 1 = .ok (.iload_n 1, 1) := by decide +kernel
theorem dX9_in_2 : decode cX9_in 2 = .ok (.if_icmp .lt 12, 3) := by decide +kernel
theorem dX9_in_5 : decode cX9_in 5 = .ok (.iload_n 0, 1) := by decide +kernel
theorem dX9_in_6 : decode cX9_in 6 = .ok (.iload_n 2, 1) := by decide +kernel
theorem dX9_in_7 : decode cX9_in 7 = .ok (.if_icmp .gt 7, 3) := by decide +kernel
theorem dX9_in_10 : decode cX9_in 10 = .ok (.iconst 1, 1) := by decide +kernel
theorem dX9_in_11 : decode cX9_in 11 = .ok (.goto 4, 3) := by decide +kernel
theorem dX9_in_14 : decode cX9_in 14 = .ok (.iconst 0, 1) := by decide +kernel
theorem dX9_in_15 : decode cX9_in 15 = .ok (.ireturn, 1) := by decide +kernel
theorem dX9_isStep_0 : decode cX9_isStep 0 = .ok (.iload_n 0, 1) := by decide +kernel
theorem dX9_isStep_1 : decode cX9_isStep 1 = .ok (.bipush 104, 2) := by decide +kernel
theorem dX9_isStep_3 : decode cX9_isStep 3 = .ok (.if_icmp .ne 5, 3) := by decide +kernel
theorem dX9_isStep_6 : decode cX9_isStep 6 = .ok (.iconst 1, 1) := by decide +kernel
theorem dX9_isStep_7 : decode cX9_isStep 7 = .ok (.ireturn, 1) := by decide +kernel
theorem dX9_isStep_8 : decode cX9_isStep 8 = .ok (.iload_n 1, 1) := by decide +kernel
theorem dX9_isStep_9 : decode cX9_isStep 9 = .ok (.iconst 0, 1) := by decide +kernel
theorem dX9_isStep_10 : decode cX9_isStep 10 = .ok (.iconst 3, 1) := by decide +kernel
theorem dX9_isStep_11 : decode cX9_isStep 11 = .ok (.invokestatic 103, 3) := by decide +kernel
theorem dX9_isStep_14 : decode cX9_isStep 14 = .ok (.ifCond .ne 5, 3) := by decide +kernel
theorem dX9_isStep_17 : decode cX9_isStep 17 = .ok (.iconst 0, 1) := by decide +kernel
theorem dX9_isStep_18 : decode cX9_isStep 18 = .ok (.ireturn, 1) := by decide +kernel
theorem dX9_isStep_19 : decode cX9_isStep 19 = .ok (.iload_n 0, 1) := by decide +kernel
theorem dX9_isStep_20 : decode cX9_isStep 20 = .ok (.bipush 115, 2) := by decide +kernel
theorem dX9_isStep_22 : decode cX9_isStep 22 = .ok (.if_icmp .ne 14, 3) := by decide +kernel
theorem dX9_isStep_25 : decode cX9_isStep 25 = .ok (.iload_n 2, 1) := by decide +kernel
theorem dX9_isStep_26 : decode cX9_isStep 26 = .ok (.sipush (-999), 3) := by decide +kernel
theorem dX9_isStep_29 : decode cX9_isStep 29 = .ok (.sipush 999, 3) := by decide +kernel
theorem dX9_isStep_32 : decode cX9_isStep 32 = .ok (.invokestatic 103, 3) := by decide +kernel
theorem dX9_isStep_35 : decode cX9_isStep 35 = .ok (.ireturn, 1) := by decide +kernel
theorem dX9_isStep_36 : decode cX9_isStep 36 = .ok (.iload_n 0, 1) := by decide +kernel
theorem dX9_isStep_37 : decode cX9_isStep 37 = .ok (.bipush 106, 2) := by decide +kernel
theorem dX9_isStep_39 : decode cX9_isStep 39 = .ok (.if_icmp .eq 9, 3) := by decide +kernel
theorem dX9_isStep_42 : decode cX9_isStep 42 = .ok (.iload_n 0, 1) := by decide +kernel
theorem dX9_isStep_43 : decode cX9_isStep 43 = .ok (.bipush 110, 2) := by decide +kernel
theorem dX9_isStep_45 : decode cX9_isStep 45 = .ok (.if_icmp .ne 11, 3) := by decide +kernel
theorem dX9_isStep_48 : decode cX9_isStep 48 = .ok (.iload_n 2, 1) := by decide +kernel
theorem dX9_isStep_49 : decode cX9_isStep 49 = .ok (.iconst 0, 1) := by decide +kernel
theorem dX9_isStep_50 : decode cX9_isStep 50 = .ok (.bipush 99, 2) := by decide +kernel
theorem dX9_isStep_52 : decode cX9_isStep 52 = .ok (.invokestatic 103, 3) := by decide +kernel
theorem dX9_isStep_55 : decode cX9_isStep 55 = .ok (.ireturn, 1) := by decide +kernel
theorem dX9_isStep_56 : decode cX9_isStep 56 = .ok (.iload_n 0, 1) := by decide +kernel
theorem dX9_isStep_57 : decode cX9_isStep 57 = .ok (.bipush 105, 2) := by decide +kernel
theorem dX9_isStep_59 : decode cX9_isStep 59 = .ok (.if_icmp .eq 36, 3) := by decide +kernel
theorem dX9_isStep_62 : decode cX9_isStep 62 = .ok (.iload_n 0, 1) := by decide +kernel
theorem dX9_isStep_63 : decode cX9_isStep 63 = .ok (.bipush 111, 2) := by decide +kernel
theorem dX9_isStep_65 : decode cX9_isStep 65 = .ok (.if_icmp .eq 30, 3) := by decide +kernel
theorem dX9_isStep_68 : decode cX9_isStep 68 = .ok (.iload_n 0, 1) := by decide +kernel
theorem dX9_isStep_69 : decode cX9_isStep 69 = .ok (.bipush 97, 2) := by decide +kernel
theorem dX9_isStep_71 : decode cX9_isStep 71 = .ok (.if_icmp .eq 15, 3) := by decide +kernel
theorem dX9_isStep_74 : decode cX9_isStep 74 = .ok (.iload_n 0, 1) := by decide +kernel
theorem dX9_isStep_75 : decode cX9_isStep 75 = .ok (.bipush 109, 2) := by decide +kernel
theorem dX9_isStep_77 : decode cX9_isStep 77 = .ok (.if_icmp .eq 9, 3) := by decide +kernel
theorem dX9_isStep_80 : decode cX9_isStep 80 = .ok (.iload_n 0, 1) := by decide +kernel
theorem dX9_isStep_81 : decode cX9_isStep 81 = .ok (.bipush 100, 2) := by decide +kernel
theorem dX9_isStep_83 : decode cX9_isStep 83 = .ok (.if_icmp .ne 16, 3) := by decide +kernel
theorem dX9_isStep_86 : decode cX9_isStep 86 = .ok (.iload_n 2, 1) := by decide +kernel
theorem dX9_isStep_87 : decode cX9_isStep 87 = .ok (.iconst 0, 1) := by decide +kernel
theorem dX9_isStep_88 : decode cX9_isStep 88 = .ok (.iconst 3, 1) := by decide +kernel
theorem dX9_isStep_89 : decode cX9_isStep 89 = .ok (.invokestatic 103, 3) := by decide +kernel
theorem dX9_isStep_92 : decode cX9_isStep 92 = .ok (.ifCond .eq 7, 3) := by decide +kernel
theorem dX9_isStep_95 : decode cX9_isStep 95 = .ok (.iconst 1, 1) := by decide +kernel
theorem dX9_isStep_96 : decode cX9_isStep 96 = .ok (.goto 4, 3) := by decide +kernel
theorem dX9_isStep_99 : decode cX9_isStep 99 = .ok (.iconst 0, 1) := by decide +kernel
theorem dX9_isStep_100 : decode cX9_isStep 100 = .ok (.ireturn, 1) := by decide +kernel
theorem dX9_step_0 : decode cX9_step 0 = .ok (.aload_n 0, 1) := by decide +kernel
theorem dX9_step_1 : decode cX9_step 1 = .ok (.iload_n 1, 1) := by decide +kernel
theorem dX9_step_2 : decode cX9_step 2 = .ok (.iload_n 2, 1) := by decide +kernel
theorem dX9_step_3 : decode cX9_step 3 = .ok (.iload_n 3, 1) := by decide +kernel
theorem dX9_step_4 : decode cX9_step 4 = .ok (.invokestatic 107, 3) := by decide +kernel
theorem dX9_step_7 : decode cX9_step 7 = .ok (.ifCond .ne 7, 3) := by decide +kernel
theorem dX9_step_10 : decode cX9_step 10 = .ok (.iconst 1, 1) := by decide +kernel
theorem dX9_step_11 : decode cX9_step 11 = .ok (.goto 17, 3) := by decide +kernel
theorem dX9_step_14 : decode cX9_step 14 = .ok (.aload_n 0, 1) := by decide +kernel
theorem dX9_step_15 : decode cX9_step 15 = .ok (.getfield 111, 3) := by decide +kernel
theorem dX9_step_18 : decode cX9_step 18 = .ok (.bipush 20, 2) := by decide +kernel
theorem dX9_step_20 : decode cX9_step 20 = .ok (.if_icmp .ne 7, 3) := by decide +kernel
theorem dX9_step_23 : decode cX9_step 23 = .ok (.iconst 2, 1) := by decide +kernel
theorem dX9_step_24 : decode cX9_step 24 = .ok (.goto 4, 3) := by decide +kernel
theorem dX9_step_27 : decode cX9_step 27 = .ok (.iconst 0, 1) := by decide +kernel
theorem dX9_step_28 : decode cX9_step 28 = .ok (.invokevirtual 114, 3) := by decide +kernel
theorem dX9_step_31 : decode cX9_step 31 = .ok (.ifCond .eq 5, 3) := by decide +kernel
theorem dX9_step_34 : decode cX9_step 34 = .ok (.iconst 0, 1) := by decide +kernel
theorem dX9_step_35 : decode cX9_step 35 = .ok (.ireturn, 1) := by decide +kernel
theorem dX9_step_36 : decode cX9_step 36 = .ok (.aload_n 0, 1) := by decide +kernel
theorem dX9_step_37 : decode cX9_step 37 = .ok (.getfield 7, 3) := by decide +kernel
theorem dX9_step_40 : decode cX9_step 40 = .ok (.aload_n 0, 1) := by decide +kernel
theorem dX9_step_41 : decode cX9_step 41 = .ok (.getfield 111, 3) := by decide +kernel
theorem dX9_step_44 : decode cX9_step 44 = .ok (.iload_n 1, 1) := by decide +kernel
theorem dX9_step_45 : decode cX9_step 45 = .ok (.castore, 1) := by decide +kernel
theorem dX9_step_46 : decode cX9_step 46 = .ok (.aload_n 0, 1) := by decide +kernel
theorem dX9_step_47 : decode cX9_step 47 = .ok (.getfield 13, 3) := by decide +kernel
theorem dX9_step_50 : decode cX9_step 50 = .ok (.aload_n 0, 1) := by decide +kernel
theorem dX9_step_51 : decode cX9_step 51 = .ok (.getfield 111, 3) := by decide +kernel
theorem dX9_step_54 : decode cX9_step 54 = .ok (.iload_n 2, 1) := by decide +kernel
theorem dX9_step_55 : decode cX9_step 55 = .ok (.iastore, 1) := by decide +kernel
theorem dX9_step_56 : decode cX9_step 56 = .ok (.aload_n 0, 1) := by decide +kernel
theorem dX9_step_57 : decode cX9_step 57 = .ok (.getfield 17, 3) := by decide +kernel
theorem dX9_step_60 : decode cX9_step 60 = .ok (.aload_n 0, 1) := by decide +kernel
theorem dX9_step_61 : decode cX9_step 61 = .ok (.getfield 111, 3) := by decide +kernel
theorem dX9_step_64 : decode cX9_step 64 = .ok (.iload_n 3, 1) := by decide +kernel
theorem dX9_step_65 : decode cX9_step 65 = .ok (.iastore, 1) := by decide +kernel
theorem dX9_step_66 : decode cX9_step 66 = .ok (.aload_n 0, 1) := by decide +kernel
theorem dX9_step_67 : decode cX9_step 67 = .ok (.dup, 1) := by decide +kernel
theorem dX9_step_68 : decode cX9_step 68 = .ok (.getfield 111, 3) := by decide +kernel
theorem dX9_step_71 : decode cX9_step 71 = .ok (.iconst 1, 1) := by decide +kernel
theorem dX9_step_72 : decode cX9_step 72 = .ok (.iadd, 1) := by decide +kernel
theorem dX9_step_73 : decode cX9_step 73 = .ok (.putfield 111, 3) := by decide +kernel
theorem dX9_step_76 : decode cX9_step 76 = .ok (.aload_n 0, 1) := by decide +kernel
theorem dX9_step_77 : decode cX9_step 77 = .ok (.getfield 111, 3) := by decide +kernel
theorem dX9_step_80 : decode cX9_step 80 = .ok (.ireturn, 1) := by decide +kernel
theorem dX9_number_0 : decode cX9_number 0 = .ok (.aload_n 0, 1) := by decide +kernel
theorem dX9_number_1 : decode cX9_number 1 = .ok (.iload_n 1, 1) := by decide +kernel
theorem dX9_number_2 : decode cX9_number 2 = .ok (.sipush (-999), 3) := by decide +kernel
theorem dX9_number_5 : decode cX9_number 5 = .ok (.sipush 999, 3) := by decide +kernel
theorem dX9_number_8 : decode cX9_number 8 = .ok (.invokestatic 103, 3) := by decide +kernel
theorem dX9_number_11 : decode cX9_number 11 = .ok (.ifCond .ne 7, 3) := by decide +kernel
theorem dX9_number_14 : decode cX9_number 14 = .ok (.iconst 1, 1) := by decide +kernel
theorem dX9_number_15 : decode cX9_number 15 = .ok (.goto 33, 3) := by decide +kernel
theorem dX9_number_18 : decode cX9_number 18 = .ok (.iload_n 2, 1) := by decide +kernel
theorem dX9_number_19 : decode cX9_number 19 = .ok (.ifCond .eq 12, 3) := by decide +kernel
theorem dX9_number_22 : decode cX9_number 22 = .ok (.aload_n 0, 1) := by decide +kernel
theorem dX9_number_23 : decode cX9_number 23 = .ok (.getfield 118, 3) := by decide +kernel
theorem dX9_number_26 : decode cX9_number 26 = .ok (.bipush 6, 2) := by decide +kernel
theorem dX9_number_28 : decode cX9_number 28 = .ok (.if_icmp .eq 15, 3) := by decide +kernel
theorem dX9_number_31 : decode cX9_number 31 = .ok (.iload_n 2, 1) := by decide +kernel
theorem dX9_number_32 : decode cX9_number 32 = .ok (.ifCond .ne 15, 3) := by decide +kernel
theorem dX9_number_35 : decode cX9_number 35 = .ok (.aload_n 0, 1) := by decide +kernel
theorem dX9_number_36 : decode cX9_number 36 = .ok (.getfield 121, 3) := by decide +kernel
theorem dX9_number_39 : decode cX9_number 39 = .ok (.iconst 4, 1) := by decide +kernel
theorem dX9_number_40 : decode cX9_number 40 = .ok (.if_icmp .ne 7, 3) := by decide +kernel
theorem dX9_number_43 : decode cX9_number 43 = .ok (.iconst 2, 1) := by decide +kernel
theorem dX9_number_44 : decode cX9_number 44 = .ok (.goto 4, 3) := by decide +kernel
theorem dX9_number_47 : decode cX9_number 47 = .ok (.iconst 0, 1) := by decide +kernel
theorem dX9_number_48 : decode cX9_number 48 = .ok (.invokevirtual 114, 3) := by decide +kernel
theorem dX9_number_51 : decode cX9_number 51 = .ok (.ifCond .eq 5, 3) := by decide +kernel
theorem dX9_number_54 : decode cX9_number 54 = .ok (.iconst 0, 1) := by decide +kernel
theorem dX9_number_55 : decode cX9_number 55 = .ok (.ireturn, 1) := by decide +kernel
theorem dX9_number_56 : decode cX9_number 56 = .ok (.iload_n 2, 1) := by decide +kernel
theorem dX9_number_57 : decode cX9_number 57 = .ok (.ifCond .eq 28, 3) := by decide +kernel
theorem dX9_number_60 : decode cX9_number 60 = .ok (.aload_n 0, 1) := by decide +kernel
theorem dX9_number_61 : decode cX9_number 61 = .ok (.getfield 23, 3) := by decide +kernel
theorem dX9_number_64 : decode cX9_number 64 = .ok (.aload_n 0, 1) := by decide +kernel
theorem dX9_number_65 : decode cX9_number 65 = .ok (.getfield 118, 3) := by decide +kernel
theorem dX9_number_68 : decode cX9_number 68 = .ok (.iload_n 1, 1) := by decide +kernel
theorem dX9_number_69 : decode cX9_number 69 = .ok (.iastore, 1) := by decide +kernel
theorem dX9_number_70 : decode cX9_number 70 = .ok (.aload_n 0, 1) := by decide +kernel
theorem dX9_number_71 : decode cX9_number 71 = .ok (.dup, 1) := by decide +kernel
theorem dX9_number_72 : decode cX9_number 72 = .ok (.getfield 118, 3) := by decide +kernel
theorem dX9_number_75 : decode cX9_number 75 = .ok (.iconst 1, 1) := by decide +kernel
theorem dX9_number_76 : decode cX9_number 76 = .ok (.iadd, 1) := by decide +kernel
theorem dX9_number_77 : decode cX9_number 77 = .ok (.putfield 118, 3) := by decide +kernel
theorem dX9_number_80 : decode cX9_number 80 = .ok (.aload_n 0, 1) := by decide +kernel
theorem dX9_number_81 : decode cX9_number 81 = .ok (.getfield 118, 3) := by decide +kernel
theorem dX9_number_84 : decode cX9_number 84 = .ok (.ireturn, 1) := by decide +kernel
theorem dX9_number_85 : decode cX9_number 85 = .ok (.aload_n 0, 1) := by decide +kernel
theorem dX9_number_86 : decode cX9_number 86 = .ok (.getfield 20, 3) := by decide +kernel
theorem dX9_number_89 : decode cX9_number 89 = .ok (.aload_n 0, 1) := by decide +kernel
theorem dX9_number_90 : decode cX9_number 90 = .ok (.getfield 121, 3) := by decide +kernel
theorem dX9_number_93 : decode cX9_number 93 = .ok (.iload_n 1, 1) := by decide +kernel
theorem dX9_number_94 : decode cX9_number 94 = .ok (.iastore, 1) := by decide +kernel
theorem dX9_number_95 : decode cX9_number 95 = .ok (.aload_n 0, 1) := by decide +kernel
theorem dX9_number_96 : decode cX9_number 96 = .ok (.dup, 1) := by decide +kernel
theorem dX9_number_97 : decode cX9_number 97 = .ok (.getfield 121, 3) := by decide +kernel
theorem dX9_number_100 : decode cX9_number 100 = .ok (.iconst 1, 1) := by decide +kernel
theorem dX9_number_101 : decode cX9_number 101 = .ok (.iadd, 1) := by decide +kernel
theorem dX9_number_102 : decode cX9_number 102 = .ok (.putfield 121, 3) := by decide +kernel
theorem dX9_number_105 : decode cX9_number 105 = .ok (.aload_n 0, 1) := by decide +kernel
theorem dX9_number_106 : decode cX9_number 106 = .ok (.getfield 121, 3) := by decide +kernel
theorem dX9_number_109 : decode cX9_number 109 = .ok (.ireturn, 1) := by decide +kernel
theorem dX9_wipe_0 : decode cX9_wipe 0 = .ok (.aload_n 0, 1) := by decide +kernel
theorem dX9_wipe_1 : decode cX9_wipe 1 = .ok (.iconst 0, 1) := by decide +kernel
theorem dX9_wipe_2 : decode cX9_wipe 2 = .ok (.putfield 100, 3) := by decide +kernel
theorem dX9_wipe_5 : decode cX9_wipe 5 = .ok (.iload_n 1, 1) := by decide +kernel
theorem dX9_wipe_6 : decode cX9_wipe 6 = .ok (.ifCond .eq 10, 3) := by decide +kernel
theorem dX9_wipe_9 : decode cX9_wipe 9 = .ok (.aload_n 0, 1) := by decide +kernel
theorem dX9_wipe_10 : decode cX9_wipe 10 = .ok (.getfield 111, 3) := by decide +kernel
theorem dX9_wipe_13 : decode cX9_wipe 13 = .ok (.goto 12, 3) := by decide +kernel
theorem dX9_wipe_16 : decode cX9_wipe 16 = .ok (.aload_n 0, 1) := by decide +kernel
theorem dX9_wipe_17 : decode cX9_wipe 17 = .ok (.getfield 121, 3) := by decide +kernel
theorem dX9_wipe_20 : decode cX9_wipe 20 = .ok (.aload_n 0, 1) := by decide +kernel
theorem dX9_wipe_21 : decode cX9_wipe 21 = .ok (.getfield 118, 3) := by decide +kernel
theorem dX9_wipe_24 : decode cX9_wipe 24 = .ok (.iadd, 1) := by decide +kernel
theorem dX9_wipe_25 : decode cX9_wipe 25 = .ok (.istore_n 2, 1) := by decide +kernel
theorem dX9_wipe_26 : decode cX9_wipe 26 = .ok (.iload_n 1, 1) := by decide +kernel
theorem dX9_wipe_27 : decode cX9_wipe 27 = .ok (.ifCond .eq 11, 3) := by decide +kernel
theorem dX9_wipe_30 : decode cX9_wipe 30 = .ok (.aload_n 0, 1) := by decide +kernel
theorem dX9_wipe_31 : decode cX9_wipe 31 = .ok (.iconst 0, 1) := by decide +kernel
theorem dX9_wipe_32 : decode cX9_wipe 32 = .ok (.putfield 111, 3) := by decide +kernel
theorem dX9_wipe_35 : decode cX9_wipe 35 = .ok (.goto 13, 3) := by decide +kernel
theorem dX9_wipe_38 : decode cX9_wipe 38 = .ok (.aload_n 0, 1) := by decide +kernel
theorem dX9_wipe_39 : decode cX9_wipe 39 = .ok (.iconst 0, 1) := by decide +kernel
theorem dX9_wipe_40 : decode cX9_wipe 40 = .ok (.putfield 121, 3) := by decide +kernel
theorem dX9_wipe_43 : decode cX9_wipe 43 = .ok (.aload_n 0, 1) := by decide +kernel
theorem dX9_wipe_44 : decode cX9_wipe 44 = .ok (.iconst 0, 1) := by decide +kernel
theorem dX9_wipe_45 : decode cX9_wipe 45 = .ok (.putfield 118, 3) := by decide +kernel
theorem dX9_wipe_48 : decode cX9_wipe 48 = .ok (.iload_n 2, 1) := by decide +kernel
theorem dX9_wipe_49 : decode cX9_wipe 49 = .ok (.ireturn, 1) := by decide +kernel
theorem dX9_isNoProblem_0 : decode cX9_isNoProblem 0 = .ok (.iload_n 1, 1) := by decide +kernel
theorem dX9_isNoProblem_1 : decode cX9_isNoProblem 1 = .ok (.iconst 0, 1) := by decide +kernel
theorem dX9_isNoProblem_2 : decode cX9_isNoProblem 2 = .ok (.aload_n 0, 1) := by decide +kernel
theorem dX9_isNoProblem_3 : decode cX9_isNoProblem 3 = .ok (.getfield 124, 3) := by decide +kernel
theorem dX9_isNoProblem_6 : decode cX9_isNoProblem 6 = .ok (.iconst 1, 1) := by decide +kernel
theorem dX9_isNoProblem_7 : decode cX9_isNoProblem 7 = .ok (.isub, 1) := by decide +kernel
theorem dX9_isNoProblem_8 : decode cX9_isNoProblem 8 = .ok (.invokestatic 103, 3) := by decide +kernel
theorem dX9_isNoProblem_11 : decode cX9_isNoProblem 11 = .ok (.ifCond .ne 7, 3) := by decide +kernel
theorem dX9_isNoProblem_14 : decode cX9_isNoProblem 14 = .ok (.iconst 1, 1) := by decide +kernel
theorem dX9_isNoProblem_15 : decode cX9_isNoProblem 15 = .ok (.goto 4, 3) := by decide +kernel
theorem dX9_isNoProblem_18 : decode cX9_isNoProblem 18 = .ok (.iconst 0, 1) := by decide +kernel
theorem dX9_isNoProblem_19 : decode cX9_isNoProblem 19 = .ok (.ireturn, 1) := by decide +kernel
theorem dX9_isNoTeam_0 : decode cX9_isNoTeam 0 = .ok (.iload_n 1, 1) := by decide +kernel
theorem dX9_isNoTeam_1 : decode cX9_isNoTeam 1 = .ok (.iconst 0, 1) := by decide +kernel
theorem dX9_isNoTeam_2 : decode cX9_isNoTeam 2 = .ok (.aload_n 0, 1) := by decide +kernel
theorem dX9_isNoTeam_3 : decode cX9_isNoTeam 3 = .ok (.getfield 127, 3) := by decide +kernel
theorem dX9_isNoTeam_6 : decode cX9_isNoTeam 6 = .ok (.iconst 1, 1) := by decide +kernel
theorem dX9_isNoTeam_7 : decode cX9_isNoTeam 7 = .ok (.isub, 1) := by decide +kernel
theorem dX9_isNoTeam_8 : decode cX9_isNoTeam 8 = .ok (.invokestatic 103, 3) := by decide +kernel
theorem dX9_isNoTeam_11 : decode cX9_isNoTeam 11 = .ok (.ifCond .ne 7, 3) := by decide +kernel
theorem dX9_isNoTeam_14 : decode cX9_isNoTeam 14 = .ok (.iconst 1, 1) := by decide +kernel
theorem dX9_isNoTeam_15 : decode cX9_isNoTeam 15 = .ok (.goto 4, 3) := by decide +kernel
theorem dX9_isNoTeam_18 : decode cX9_isNoTeam 18 = .ok (.iconst 0, 1) := by decide +kernel
theorem dX9_isNoTeam_19 : decode cX9_isNoTeam 19 = .ok (.ireturn, 1) := by decide +kernel
theorem dX9_isNoRun_0 : decode cX9_isNoRun 0 = .ok (.iload_n 1, 1) := by decide +kernel
theorem dX9_isNoRun_1 : decode cX9_isNoRun 1 = .ok (.iconst 0, 1) := by decide +kernel
theorem dX9_isNoRun_2 : decode cX9_isNoRun 2 = .ok (.aload_n 0, 1) := by decide +kernel
theorem dX9_isNoRun_3 : decode cX9_isNoRun 3 = .ok (.getfield 130, 3) := by decide +kernel
theorem dX9_isNoRun_6 : decode cX9_isNoRun 6 = .ok (.iconst 1, 1) := by decide +kernel
theorem dX9_isNoRun_7 : decode cX9_isNoRun 7 = .ok (.isub, 1) := by decide +kernel
theorem dX9_isNoRun_8 : decode cX9_isNoRun 8 = .ok (.invokestatic 103, 3) := by decide +kernel
theorem dX9_isNoRun_11 : decode cX9_isNoRun 11 = .ok (.ifCond .ne 7, 3) := by decide +kernel
theorem dX9_isNoRun_14 : decode cX9_isNoRun 14 = .ok (.iconst 1, 1) := by decide +kernel
theorem dX9_isNoRun_15 : decode cX9_isNoRun 15 = .ok (.goto 4, 3) := by decide +kernel
theorem dX9_isNoRun_18 : decode cX9_isNoRun 18 = .ok (.iconst 0, 1) := by decide +kernel
theorem dX9_isNoRun_19 : decode cX9_isNoRun 19 = .ok (.ireturn, 1) := by decide +kernel
theorem dX9_problem_0 : decode cX9_problem 0 = .ok (.aload_n 0, 1) := by decide +kernel
theorem dX9_problem_1 : decode cX9_problem 1 = .ok (.iload_n 1, 1) := by decide +kernel
theorem dX9_problem_2 : decode cX9_problem 2 = .ok (.iconst 0, 1) := by decide +kernel
theorem dX9_problem_3 : decode cX9_problem 3 = .ok (.iconst 3, 1) := by decide +kernel
theorem dX9_problem_4 : decode cX9_problem 4 = .ok (.invokestatic 103, 3) := by decide +kernel
theorem dX9_problem_7 : decode cX9_problem 7 = .ok (.ifCond .eq 14, 3) := by decide +kernel
theorem dX9_problem_10 : decode cX9_problem 10 = .ok (.iload_n 2, 1) := by decide +kernel
theorem dX9_problem_11 : decode cX9_problem 11 = .ok (.iconst 1, 1) := by decide +kernel
theorem dX9_problem_12 : decode cX9_problem 12 = .ok (.sipush 400, 3) := by decide +kernel
theorem dX9_problem_15 : decode cX9_problem 15 = .ok (.invokestatic 103, 3) := by decide +kernel
theorem dX9_problem_18 : decode cX9_problem 18 = .ok (.ifCond .ne 7, 3) := by decide +kernel
theorem dX9_problem_21 : decode cX9_problem 21 = .ok (.iconst 1, 1) := by decide +kernel
theorem dX9_problem_22 : decode cX9_problem 22 = .ok (.goto 16, 3) := by decide +kernel
theorem dX9_problem_25 : decode cX9_problem 25 = .ok (.aload_n 0, 1) := by decide +kernel
theorem dX9_problem_26 : decode cX9_problem 26 = .ok (.getfield 124, 3) := by decide +kernel
theorem dX9_problem_29 : decode cX9_problem 29 = .ok (.iconst 5, 1) := by decide +kernel
theorem dX9_problem_30 : decode cX9_problem 30 = .ok (.if_icmp .ne 7, 3) := by decide +kernel
theorem dX9_problem_33 : decode cX9_problem 33 = .ok (.iconst 2, 1) := by decide +kernel
theorem dX9_problem_34 : decode cX9_problem 34 = .ok (.goto 4, 3) := by decide +kernel
theorem dX9_problem_37 : decode cX9_problem 37 = .ok (.iconst 0, 1) := by decide +kernel
theorem dX9_problem_38 : decode cX9_problem 38 = .ok (.invokevirtual 114, 3) := by decide +kernel
theorem dX9_problem_41 : decode cX9_problem 41 = .ok (.ifCond .eq 5, 3) := by decide +kernel
theorem dX9_problem_44 : decode cX9_problem 44 = .ok (.iconst 0, 1) := by decide +kernel
theorem dX9_problem_45 : decode cX9_problem 45 = .ok (.ireturn, 1) := by decide +kernel
theorem dX9_problem_46 : decode cX9_problem 46 = .ok (.aload_n 0, 1) := by decide +kernel
theorem dX9_problem_47 : decode cX9_problem 47 = .ok (.getfield 26, 3) := by decide +kernel
theorem dX9_problem_50 : decode cX9_problem 50 = .ok (.aload_n 0, 1) := by decide +kernel
theorem dX9_problem_51 : decode cX9_problem 51 = .ok (.getfield 124, 3) := by decide +kernel
theorem dX9_problem_54 : decode cX9_problem 54 = .ok (.iload_n 1, 1) := by decide +kernel
theorem dX9_problem_55 : decode cX9_problem 55 = .ok (.iastore, 1) := by decide +kernel
theorem dX9_problem_56 : decode cX9_problem 56 = .ok (.aload_n 0, 1) := by decide +kernel
theorem dX9_problem_57 : decode cX9_problem 57 = .ok (.getfield 29, 3) := by decide +kernel
theorem dX9_problem_60 : decode cX9_problem 60 = .ok (.aload_n 0, 1) := by decide +kernel
theorem dX9_problem_61 : decode cX9_problem 61 = .ok (.getfield 124, 3) := by decide +kernel
theorem dX9_problem_64 : decode cX9_problem 64 = .ok (.iload_n 2, 1) := by decide +kernel
theorem dX9_problem_65 : decode cX9_problem 65 = .ok (.iastore, 1) := by decide +kernel
theorem dX9_problem_66 : decode cX9_problem 66 = .ok (.aload_n 0, 1) := by decide +kernel
theorem dX9_problem_67 : decode cX9_problem 67 = .ok (.dup, 1) := by decide +kernel
theorem dX9_problem_68 : decode cX9_problem 68 = .ok (.getfield 124, 3) := by decide +kernel
theorem dX9_problem_71 : decode cX9_problem 71 = .ok (.iconst 1, 1) := by decide +kernel
theorem dX9_problem_72 : decode cX9_problem 72 = .ok (.iadd, 1) := by decide +kernel
theorem dX9_problem_73 : decode cX9_problem 73 = .ok (.putfield 124, 3) := by decide +kernel
theorem dX9_problem_76 : decode cX9_problem 76 = .ok (.aload_n 0, 1) := by decide +kernel
theorem dX9_problem_77 : decode cX9_problem 77 = .ok (.getfield 124, 3) := by decide +kernel
theorem dX9_problem_80 : decode cX9_problem 80 = .ok (.iconst 1, 1) := by decide +kernel
theorem dX9_problem_81 : decode cX9_problem 81 = .ok (.isub, 1) := by decide +kernel
theorem dX9_problem_82 : decode cX9_problem 82 = .ok (.ireturn, 1) := by decide +kernel
theorem dX9_lays_0 : decode cX9_lays 0 = .ok (.aload_n 0, 1) := by decide +kernel
theorem dX9_lays_1 : decode cX9_lays 1 = .ok (.getfield 38, 3) := by decide +kernel
theorem dX9_lays_4 : decode cX9_lays 4 = .ok (.bipush 6, 2) := by decide +kernel
theorem dX9_lays_6 : decode cX9_lays 6 = .ok (.iload_n 1, 1) := by decide +kernel
theorem dX9_lays_7 : decode cX9_lays 7 = .ok (.imul, 1) := by decide +kernel
theorem dX9_lays_8 : decode cX9_lays 8 = .ok (.iload_n 2, 1) := by decide +kernel
theorem dX9_lays_9 : decode cX9_lays 9 = .ok (.iadd, 1) := by decide +kernel
theorem dX9_lays_10 : decode cX9_lays 10 = .ok (.aload_n 0, 1) := by decide +kernel
theorem dX9_lays_11 : decode cX9_lays 11 = .ok (.getfield 121, 3) := by decide +kernel
theorem dX9_lays_14 : decode cX9_lays 14 = .ok (.iastore, 1) := by decide +kernel
theorem dX9_lays_15 : decode cX9_lays 15 = .ok (.aload_n 0, 1) := by decide +kernel
theorem dX9_lays_16 : decode cX9_lays 16 = .ok (.getfield 44, 3) := by decide +kernel
theorem dX9_lays_19 : decode cX9_lays 19 = .ok (.bipush 6, 2) := by decide +kernel
theorem dX9_lays_21 : decode cX9_lays 21 = .ok (.iload_n 1, 1) := by decide +kernel
theorem dX9_lays_22 : decode cX9_lays 22 = .ok (.imul, 1) := by decide +kernel
theorem dX9_lays_23 : decode cX9_lays 23 = .ok (.iload_n 2, 1) := by decide +kernel
theorem dX9_lays_24 : decode cX9_lays 24 = .ok (.iadd, 1) := by decide +kernel
theorem dX9_lays_25 : decode cX9_lays 25 = .ok (.aload_n 0, 1) := by decide +kernel
theorem dX9_lays_26 : decode cX9_lays 26 = .ok (.getfield 118, 3) := by decide +kernel
theorem dX9_lays_29 : decode cX9_lays 29 = .ok (.iastore, 1) := by decide +kernel
theorem dX9_lays_30 : decode cX9_lays 30 = .ok (.iconst 0, 1) := by decide +kernel
theorem dX9_lays_31 : decode cX9_lays 31 = .ok (.istore_n 3, 1) := by decide +kernel
theorem dX9_lays_32 : decode cX9_lays 32 = .ok (.iload_n 3, 1) := by decide +kernel
theorem dX9_lays_33 : decode cX9_lays 33 = .ok (.aload_n 0, 1) := by decide +kernel
theorem dX9_lays_34 : decode cX9_lays 34 = .ok (.getfield 121, 3) := by decide +kernel
theorem dX9_lays_37 : decode cX9_lays 37 = .ok (.if_icmp .ge 30, 3) := by decide +kernel
theorem dX9_lays_40 : decode cX9_lays 40 = .ok (.aload_n 0, 1) := by decide +kernel
theorem dX9_lays_41 : decode cX9_lays 41 = .ok (.getfield 35, 3) := by decide +kernel
theorem dX9_lays_44 : decode cX9_lays 44 = .ok (.bipush 24, 2) := by decide +kernel
theorem dX9_lays_46 : decode cX9_lays 46 = .ok (.iload_n 1, 1) := by decide +kernel
theorem dX9_lays_47 : decode cX9_lays 47 = .ok (.imul, 1) := by decide +kernel
theorem dX9_lays_48 : decode cX9_lays 48 = .ok (.iconst 4, 1) := by decide +kernel
theorem dX9_lays_49 : decode cX9_lays 49 = .ok (.iload_n 2, 1) := by decide +kernel
theorem dX9_lays_50 : decode cX9_lays 50 = .ok (.imul, 1) := by decide +kernel
theorem dX9_lays_51 : decode cX9_lays 51 = .ok (.iadd, 1) := by decide +kernel
theorem dX9_lays_52 : decode cX9_lays 52 = .ok (.iload_n 3, 1) := by decide +kernel
theorem dX9_lays_53 : decode cX9_lays 53 = .ok (.iadd, 1) := by decide +kernel
theorem dX9_lays_54 : decode cX9_lays 54 = .ok (.aload_n 0, 1) := by decide +kernel
theorem dX9_lays_55 : decode cX9_lays 55 = .ok (.getfield 20, 3) := by decide +kernel
theorem dX9_lays_58 : decode cX9_lays 58 = .ok (.iload_n 3, 1) := by decide +kernel
theorem dX9_lays_59 : decode cX9_lays 59 = .ok (.iaload, 1) := by decide +kernel
theorem dX9_lays_60 : decode cX9_lays 60 = .ok (.iastore, 1) := by decide +kernel
theorem dX9_lays_61 : decode cX9_lays 61 = .ok (.iinc 3 1, 3) := by decide +kernel
theorem dX9_lays_64 : decode cX9_lays 64 = .ok (.goto (-32), 3) := by decide +kernel
theorem dX9_lays_67 : decode cX9_lays 67 = .ok (.iconst 0, 1) := by decide +kernel
theorem dX9_lays_68 : decode cX9_lays 68 = .ok (.istore_n 3, 1) := by decide +kernel
theorem dX9_lays_69 : decode cX9_lays 69 = .ok (.iload_n 3, 1) := by decide +kernel
theorem dX9_lays_70 : decode cX9_lays 70 = .ok (.aload_n 0, 1) := by decide +kernel
theorem dX9_lays_71 : decode cX9_lays 71 = .ok (.getfield 118, 3) := by decide +kernel
theorem dX9_lays_74 : decode cX9_lays 74 = .ok (.if_icmp .ge 31, 3) := by decide +kernel
theorem dX9_lays_77 : decode cX9_lays 77 = .ok (.aload_n 0, 1) := by decide +kernel
theorem dX9_lays_78 : decode cX9_lays 78 = .ok (.getfield 41, 3) := by decide +kernel
theorem dX9_lays_81 : decode cX9_lays 81 = .ok (.bipush 36, 2) := by decide +kernel
theorem dX9_lays_83 : decode cX9_lays 83 = .ok (.iload_n 1, 1) := by decide +kernel
theorem dX9_lays_84 : decode cX9_lays 84 = .ok (.imul, 1) := by decide +kernel
theorem dX9_lays_85 : decode cX9_lays 85 = .ok (.bipush 6, 2) := by decide +kernel
theorem dX9_lays_87 : decode cX9_lays 87 = .ok (.iload_n 2, 1) := by decide +kernel
theorem dX9_lays_88 : decode cX9_lays 88 = .ok (.imul, 1) := by decide +kernel
theorem dX9_lays_89 : decode cX9_lays 89 = .ok (.iadd, 1) := by decide +kernel
theorem dX9_lays_90 : decode cX9_lays 90 = .ok (.iload_n 3, 1) := by decide +kernel
theorem dX9_lays_91 : decode cX9_lays 91 = .ok (.iadd, 1) := by decide +kernel
theorem dX9_lays_92 : decode cX9_lays 92 = .ok (.aload_n 0, 1) := by decide +kernel
theorem dX9_lays_93 : decode cX9_lays 93 = .ok (.getfield 23, 3) := by decide +kernel
theorem dX9_lays_96 : decode cX9_lays 96 = .ok (.iload_n 3, 1) := by decide +kernel
theorem dX9_lays_97 : decode cX9_lays 97 = .ok (.iaload, 1) := by decide +kernel
theorem dX9_lays_98 : decode cX9_lays 98 = .ok (.iastore, 1) := by decide +kernel
theorem dX9_lays_99 : decode cX9_lays 99 = .ok (.iinc 3 1, 3) := by decide +kernel
theorem dX9_lays_102 : decode cX9_lays 102 = .ok (.goto (-33), 3) := by decide +kernel
theorem dX9_lays_105 : decode cX9_lays 105 = .ok (.return_, 1) := by decide +kernel
theorem dX9_test_0 : decode cX9_test 0 = .ok (.aload_n 0, 1) := by decide +kernel
theorem dX9_test_1 : decode cX9_test 1 = .ok (.aload_n 0, 1) := by decide +kernel
theorem dX9_test_2 : decode cX9_test 2 = .ok (.iload_n 1, 1) := by decide +kernel
theorem dX9_test_3 : decode cX9_test 3 = .ok (.invokevirtual 133, 3) := by decide +kernel
theorem dX9_test_6 : decode cX9_test 6 = .ok (.ifCond .eq 7, 3) := by decide +kernel
theorem dX9_test_9 : decode cX9_test 9 = .ok (.iconst 1, 1) := by decide +kernel
theorem dX9_test_10 : decode cX9_test 10 = .ok (.goto 19, 3) := by decide +kernel
theorem dX9_test_13 : decode cX9_test 13 = .ok (.aload_n 0, 1) := by decide +kernel
theorem dX9_test_14 : decode cX9_test 14 = .ok (.getfield 32, 3) := by decide +kernel
theorem dX9_test_17 : decode cX9_test 17 = .ok (.iload_n 1, 1) := by decide +kernel
theorem dX9_test_18 : decode cX9_test 18 = .ok (.iaload, 1) := by decide +kernel
theorem dX9_test_19 : decode cX9_test 19 = .ok (.bipush 6, 2) := by decide +kernel
theorem dX9_test_21 : decode cX9_test 21 = .ok (.if_icmp .ne 7, 3) := by decide +kernel
theorem dX9_test_24 : decode cX9_test 24 = .ok (.iconst 2, 1) := by decide +kernel
theorem dX9_test_25 : decode cX9_test 25 = .ok (.goto 4, 3) := by decide +kernel
theorem dX9_test_28 : decode cX9_test 28 = .ok (.iconst 0, 1) := by decide +kernel
theorem dX9_test_29 : decode cX9_test 29 = .ok (.invokevirtual 114, 3) := by decide +kernel
theorem dX9_test_32 : decode cX9_test 32 = .ok (.ifCond .eq 5, 3) := by decide +kernel
theorem dX9_test_35 : decode cX9_test 35 = .ok (.iconst 0, 1) := by decide +kernel
theorem dX9_test_36 : decode cX9_test 36 = .ok (.ireturn, 1) := by decide +kernel
theorem dX9_test_37 : decode cX9_test 37 = .ok (.aload_n 0, 1) := by decide +kernel
theorem dX9_test_38 : decode cX9_test 38 = .ok (.getfield 32, 3) := by decide +kernel
theorem dX9_test_41 : decode cX9_test 41 = .ok (.iload_n 1, 1) := by decide +kernel
theorem dX9_test_42 : decode cX9_test 42 = .ok (.iaload, 1) := by decide +kernel
theorem dX9_test_43 : decode cX9_test 43 = .ok (.istore_n 2, 1) := by decide +kernel
theorem dX9_test_44 : decode cX9_test 44 = .ok (.aload_n 0, 1) := by decide +kernel
theorem dX9_test_45 : decode cX9_test 45 = .ok (.iload_n 1, 1) := by decide +kernel
theorem dX9_test_46 : decode cX9_test 46 = .ok (.iload_n 2, 1) := by decide +kernel
theorem dX9_test_47 : decode cX9_test 47 = .ok (.invokevirtual 136, 3) := by decide +kernel
theorem dX9_test_50 : decode cX9_test 50 = .ok (.aload_n 0, 1) := by decide +kernel
theorem dX9_test_51 : decode cX9_test 51 = .ok (.iload_n 1, 1) := by decide +kernel
theorem dX9_test_52 : decode cX9_test 52 = .ok (.iload_n 2, 1) := by decide +kernel
theorem dX9_test_53 : decode cX9_test 53 = .ok (.iload_n 2, 1) := by decide +kernel
theorem dX9_test_54 : decode cX9_test 54 = .ok (.iconst 1, 1) := by decide +kernel
theorem dX9_test_55 : decode cX9_test 55 = .ok (.iadd, 1) := by decide +kernel
theorem dX9_test_56 : decode cX9_test 56 = .ok (.invokevirtual 140, 3) := by decide +kernel
theorem dX9_test_59 : decode cX9_test 59 = .ok (.ireturn, 1) := by decide +kernel
theorem dX9_fix_0 : decode cX9_fix 0 = .ok (.aload_n 0, 1) := by decide +kernel
theorem dX9_fix_1 : decode cX9_fix 1 = .ok (.aload_n 0, 1) := by decide +kernel
theorem dX9_fix_2 : decode cX9_fix 2 = .ok (.iload_n 1, 1) := by decide +kernel
theorem dX9_fix_3 : decode cX9_fix 3 = .ok (.invokevirtual 133, 3) := by decide +kernel
theorem dX9_fix_6 : decode cX9_fix 6 = .ok (.ifCond .ne 19, 3) := by decide +kernel
theorem dX9_fix_9 : decode cX9_fix 9 = .ok (.iload_n 2, 1) := by decide +kernel
theorem dX9_fix_10 : decode cX9_fix 10 = .ok (.iconst 0, 1) := by decide +kernel
theorem dX9_fix_11 : decode cX9_fix 11 = .ok (.aload_n 0, 1) := by decide +kernel
theorem dX9_fix_12 : decode cX9_fix 12 = .ok (.getfield 32, 3) := by decide +kernel
theorem dX9_fix_15 : decode cX9_fix 15 = .ok (.iload_n 1, 1) := by decide +kernel
theorem dX9_fix_16 : decode cX9_fix 16 = .ok (.iaload, 1) := by decide +kernel
theorem dX9_fix_17 : decode cX9_fix 17 = .ok (.iconst 1, 1) := by decide +kernel
theorem dX9_fix_18 : decode cX9_fix 18 = .ok (.isub, 1) := by decide +kernel
theorem dX9_fix_19 : decode cX9_fix 19 = .ok (.invokestatic 103, 3) := by decide +kernel
theorem dX9_fix_22 : decode cX9_fix 22 = .ok (.ifCond .ne 7, 3) := by decide +kernel
theorem dX9_fix_25 : decode cX9_fix 25 = .ok (.iconst 1, 1) := by decide +kernel
theorem dX9_fix_26 : decode cX9_fix 26 = .ok (.goto 4, 3) := by decide +kernel
theorem dX9_fix_29 : decode cX9_fix 29 = .ok (.iconst 0, 1) := by decide +kernel
theorem dX9_fix_30 : decode cX9_fix 30 = .ok (.invokevirtual 114, 3) := by decide +kernel
theorem dX9_fix_33 : decode cX9_fix 33 = .ok (.ifCond .eq 5, 3) := by decide +kernel
theorem dX9_fix_36 : decode cX9_fix 36 = .ok (.iconst 0, 1) := by decide +kernel
theorem dX9_fix_37 : decode cX9_fix 37 = .ok (.ireturn, 1) := by decide +kernel
theorem dX9_fix_38 : decode cX9_fix 38 = .ok (.aload_n 0, 1) := by decide +kernel
theorem dX9_fix_39 : decode cX9_fix 39 = .ok (.iload_n 1, 1) := by decide +kernel
theorem dX9_fix_40 : decode cX9_fix 40 = .ok (.iload_n 2, 1) := by decide +kernel
theorem dX9_fix_41 : decode cX9_fix 41 = .ok (.invokevirtual 136, 3) := by decide +kernel
theorem dX9_fix_44 : decode cX9_fix 44 = .ok (.aload_n 0, 1) := by decide +kernel
theorem dX9_fix_45 : decode cX9_fix 45 = .ok (.iload_n 1, 1) := by decide +kernel
theorem dX9_fix_46 : decode cX9_fix 46 = .ok (.iload_n 2, 1) := by decide +kernel
theorem dX9_fix_47 : decode cX9_fix 47 = .ok (.aload_n 0, 1) := by decide +kernel
theorem dX9_fix_48 : decode cX9_fix 48 = .ok (.getfield 32, 3) := by decide +kernel
theorem dX9_fix_51 : decode cX9_fix 51 = .ok (.iload_n 1, 1) := by decide +kernel
theorem dX9_fix_52 : decode cX9_fix 52 = .ok (.iaload, 1) := by decide +kernel
theorem dX9_fix_53 : decode cX9_fix 53 = .ok (.invokevirtual 140, 3) := by decide +kernel
theorem dX9_fix_56 : decode cX9_fix 56 = .ok (.ireturn, 1) := by decide +kernel
theorem dX9_tests_0 : decode cX9_tests 0 = .ok (.aload_n 0, 1) := by decide +kernel
theorem dX9_tests_1 : decode cX9_tests 1 = .ok (.aload_n 0, 1) := by decide +kernel
theorem dX9_tests_2 : decode cX9_tests 2 = .ok (.iload_n 1, 1) := by decide +kernel
theorem dX9_tests_3 : decode cX9_tests 3 = .ok (.invokevirtual 133, 3) := by decide +kernel
theorem dX9_tests_6 : decode cX9_tests 6 = .ok (.ifCond .eq 7, 3) := by decide +kernel
theorem dX9_tests_9 : decode cX9_tests 9 = .ok (.iconst 1, 1) := by decide +kernel
theorem dX9_tests_10 : decode cX9_tests 10 = .ok (.goto 4, 3) := by decide +kernel
theorem dX9_tests_13 : decode cX9_tests 13 = .ok (.iconst 0, 1) := by decide +kernel
theorem dX9_tests_14 : decode cX9_tests 14 = .ok (.invokevirtual 114, 3) := by decide +kernel
theorem dX9_tests_17 : decode cX9_tests 17 = .ok (.ifCond .eq 7, 3) := by decide +kernel
theorem dX9_tests_20 : decode cX9_tests 20 = .ok (.iconst 0, 1) := by decide +kernel
theorem dX9_tests_21 : decode cX9_tests 21 = .ok (.goto 9, 3) := by decide +kernel
theorem dX9_tests_24 : decode cX9_tests 24 = .ok (.aload_n 0, 1) := by decide +kernel
theorem dX9_tests_25 : decode cX9_tests 25 = .ok (.getfield 32, 3) := by decide +kernel
theorem dX9_tests_28 : decode cX9_tests 28 = .ok (.iload_n 1, 1) := by decide +kernel
theorem dX9_tests_29 : decode cX9_tests 29 = .ok (.iaload, 1) := by decide +kernel
theorem dX9_tests_30 : decode cX9_tests 30 = .ok (.ireturn, 1) := by decide +kernel
theorem dX9_judges_0 : decode cX9_judges 0 = .ok (.iconst 0, 1) := by decide +kernel
theorem dX9_judges_1 : decode cX9_judges 1 = .ok (.istore_n 3, 1) := by decide +kernel
theorem dX9_judges_2 : decode cX9_judges 2 = .ok (.iload_n 3, 1) := by decide +kernel
theorem dX9_judges_3 : decode cX9_judges 3 = .ok (.iconst 4, 1) := by decide +kernel
theorem dX9_judges_4 : decode cX9_judges 4 = .ok (.if_icmp .ge 16, 3) := by decide +kernel
theorem dX9_judges_7 : decode cX9_judges 7 = .ok (.aload_n 0, 1) := by decide +kernel
theorem dX9_judges_8 : decode cX9_judges 8 = .ok (.getfield 80, 3) := by decide +kernel
theorem dX9_judges_11 : decode cX9_judges 11 = .ok (.iload_n 3, 1) := by decide +kernel
theorem dX9_judges_12 : decode cX9_judges 12 = .ok (.iconst 0, 1) := by decide +kernel
theorem dX9_judges_13 : decode cX9_judges 13 = .ok (.iastore, 1) := by decide +kernel
theorem dX9_judges_14 : decode cX9_judges 14 = .ok (.iinc 3 1, 3) := by decide +kernel
theorem dX9_judges_17 : decode cX9_judges 17 = .ok (.goto (-15), 3) := by decide +kernel
theorem dX9_judges_20 : decode cX9_judges 20 = .ok (.aload_n 0, 1) := by decide +kernel
theorem dX9_judges_21 : decode cX9_judges 21 = .ok (.getfield 77, 3) := by decide +kernel
theorem dX9_judges_24 : decode cX9_judges 24 = .ok (.bipush 6, 2) := by decide +kernel
theorem dX9_judges_26 : decode cX9_judges 26 = .ok (.iload_n 1, 1) := by decide +kernel
theorem dX9_judges_27 : decode cX9_judges 27 = .ok (.imul, 1) := by decide +kernel
theorem dX9_judges_28 : decode cX9_judges 28 = .ok (.iload_n 2, 1) := by decide +kernel
theorem dX9_judges_29 : decode cX9_judges 29 = .ok (.iadd, 1) := by decide +kernel
theorem dX9_judges_30 : decode cX9_judges 30 = .ok (.iconst 0, 1) := by decide +kernel
theorem dX9_judges_31 : decode cX9_judges 31 = .ok (.iastore, 1) := by decide +kernel
theorem dX9_judges_32 : decode cX9_judges 32 = .ok (.aload_n 0, 1) := by decide +kernel
theorem dX9_judges_33 : decode cX9_judges 33 = .ok (.getfield 71, 3) := by decide +kernel
theorem dX9_judges_36 : decode cX9_judges 36 = .ok (.bipush 6, 2) := by decide +kernel
theorem dX9_judges_38 : decode cX9_judges 38 = .ok (.iload_n 1, 1) := by decide +kernel
theorem dX9_judges_39 : decode cX9_judges 39 = .ok (.imul, 1) := by decide +kernel
theorem dX9_judges_40 : decode cX9_judges 40 = .ok (.iload_n 2, 1) := by decide +kernel
theorem dX9_judges_41 : decode cX9_judges 41 = .ok (.iadd, 1) := by decide +kernel
theorem dX9_judges_42 : decode cX9_judges 42 = .ok (.iconst 0, 1) := by decide +kernel
theorem dX9_judges_43 : decode cX9_judges 43 = .ok (.iastore, 1) := by decide +kernel
theorem dX9_judges_44 : decode cX9_judges 44 = .ok (.bipush 32, 2) := by decide +kernel
theorem dX9_judges_46 : decode cX9_judges 46 = .ok (.istore_n 3, 1) := by decide +kernel
theorem dX9_judges_47 : decode cX9_judges 47 = .ok (.iconst 0, 1) := by decide +kernel
theorem dX9_judges_48 : decode cX9_judges 48 = .ok (.istore 4, 2) := by decide +kernel
theorem dX9_judges_50 : decode cX9_judges 50 = .ok (.iconst 0, 1) := by decide +kernel
theorem dX9_judges_51 : decode cX9_judges 51 = .ok (.istore 5, 2) := by decide +kernel
theorem dX9_judges_53 : decode cX9_judges 53 = .ok (.aload_n 0, 1) := by decide +kernel
theorem dX9_judges_54 : decode cX9_judges 54 = .ok (.getfield 50, 3) := by decide +kernel
theorem dX9_judges_57 : decode cX9_judges 57 = .ok (.iload_n 1, 1) := by decide +kernel
theorem dX9_judges_58 : decode cX9_judges 58 = .ok (.iaload, 1) := by decide +kernel
theorem dX9_judges_59 : decode cX9_judges 59 = .ok (.istore 6, 2) := by decide +kernel
theorem dX9_judges_61 : decode cX9_judges 61 = .ok (.iload_n 3, 1) := by decide +kernel
theorem dX9_judges_62 : decode cX9_judges 62 = .ok (.bipush 32, 2) := by decide +kernel
theorem dX9_judges_64 : decode cX9_judges 64 = .ok (.if_icmp .ne 327, 3) := by decide +kernel
theorem dX9_judges_67 : decode cX9_judges 67 = .ok (.iload 4, 2) := by decide +kernel
theorem dX9_judges_69 : decode cX9_judges 69 = .ok (.aload_n 0, 1) := by decide +kernel
theorem dX9_judges_70 : decode cX9_judges 70 = .ok (.getfield 56, 3) := by decide +kernel
theorem dX9_judges_73 : decode cX9_judges 73 = .ok (.iload_n 1, 1) := by decide +kernel
theorem dX9_judges_74 : decode cX9_judges 74 = .ok (.iaload, 1) := by decide +kernel
theorem dX9_judges_75 : decode cX9_judges 75 = .ok (.if_icmp .ne 23, 3) := by decide +kernel
theorem dX9_judges_78 : decode cX9_judges 78 = .ok (.aload_n 0, 1) := by decide +kernel
theorem dX9_judges_79 : decode cX9_judges 79 = .ok (.iload_n 1, 1) := by decide +kernel
theorem dX9_judges_80 : decode cX9_judges 80 = .ok (.iload_n 2, 1) := by decide +kernel
theorem dX9_judges_81 : decode cX9_judges 81 = .ok (.invokevirtual 144, 3) := by decide +kernel
theorem dX9_judges_84 : decode cX9_judges 84 = .ok (.ifCond .eq 8, 3) := by decide +kernel
theorem dX9_judges_87 : decode cX9_judges 87 = .ok (.bipush 111, 2) := by decide +kernel
theorem dX9_judges_89 : decode cX9_judges 89 = .ok (.goto 5, 3) := by decide +kernel
theorem dX9_judges_92 : decode cX9_judges 92 = .ok (.bipush 119, 2) := by decide +kernel
theorem dX9_judges_94 : decode cX9_judges 94 = .ok (.istore_n 3, 1) := by decide +kernel
theorem dX9_judges_95 : decode cX9_judges 95 = .ok (.goto (-34), 3) := by decide +kernel
theorem dX9_judges_98 : decode cX9_judges 98 = .ok (.aload_n 0, 1) := by decide +kernel
theorem dX9_judges_99 : decode cX9_judges 99 = .ok (.getfield 71, 3) := by decide +kernel
theorem dX9_judges_102 : decode cX9_judges 102 = .ok (.bipush 6, 2) := by decide +kernel
theorem dX9_judges_104 : decode cX9_judges 104 = .ok (.iload_n 1, 1) := by decide +kernel
theorem dX9_judges_105 : decode cX9_judges 105 = .ok (.imul, 1) := by decide +kernel
theorem dX9_judges_106 : decode cX9_judges 106 = .ok (.iload_n 2, 1) := by decide +kernel
theorem dX9_judges_107 : decode cX9_judges 107 = .ok (.iadd, 1) := by decide +kernel
theorem dX9_judges_108 : decode cX9_judges 108 = .ok (.iaload, 1) := by decide +kernel
theorem dX9_judges_109 : decode cX9_judges 109 = .ok (.aload_n 0, 1) := by decide +kernel
theorem dX9_judges_110 : decode cX9_judges 110 = .ok (.getfield 29, 3) := by decide +kernel
theorem dX9_judges_113 : decode cX9_judges 113 = .ok (.iload 6, 2) := by decide +kernel
theorem dX9_judges_115 : decode cX9_judges 115 = .ok (.iaload, 1) := by decide +kernel
theorem dX9_judges_116 : decode cX9_judges 116 = .ok (.if_icmp .ne 9, 3) := by decide +kernel
theorem dX9_judges_119 : decode cX9_judges 119 = .ok (.bipush 116, 2) := by decide +kernel
theorem dX9_judges_121 : decode cX9_judges 121 = .ok (.istore_n 3, 1) := by decide +kernel
theorem dX9_judges_122 : decode cX9_judges 122 = .ok (.goto (-61), 3) := by decide +kernel
theorem dX9_judges_125 : decode cX9_judges 125 = .ok (.aload_n 0, 1) := by decide +kernel
theorem dX9_judges_126 : decode cX9_judges 126 = .ok (.getfield 71, 3) := by decide +kernel
theorem dX9_judges_129 : decode cX9_judges 129 = .ok (.bipush 6, 2) := by decide +kernel
theorem dX9_judges_131 : decode cX9_judges 131 = .ok (.iload_n 1, 1) := by decide +kernel
theorem dX9_judges_132 : decode cX9_judges 132 = .ok (.imul, 1) := by decide +kernel
theorem dX9_judges_133 : decode cX9_judges 133 = .ok (.iload_n 2, 1) := by decide +kernel
theorem dX9_judges_134 : decode cX9_judges 134 = .ok (.iadd, 1) := by decide +kernel
theorem dX9_judges_135 : decode cX9_judges 135 = .ok (.dup2, 1) := by decide +kernel
theorem dX9_judges_136 : decode cX9_judges 136 = .ok (.iaload, 1) := by decide +kernel
theorem dX9_judges_137 : decode cX9_judges 137 = .ok (.iconst 1, 1) := by decide +kernel
theorem dX9_judges_138 : decode cX9_judges 138 = .ok (.iadd, 1) := by decide +kernel
theorem dX9_judges_139 : decode cX9_judges 139 = .ok (.iastore, 1) := by decide +kernel
theorem dX9_judges_140 : decode cX9_judges 140 = .ok (.aload_n 0, 1) := by decide +kernel
theorem dX9_judges_141 : decode cX9_judges 141 = .ok (.getfield 59, 3) := by decide +kernel
theorem dX9_judges_144 : decode cX9_judges 144 = .ok (.bipush 20, 2) := by decide +kernel
theorem dX9_judges_146 : decode cX9_judges 146 = .ok (.iload_n 1, 1) := by decide +kernel
theorem dX9_judges_147 : decode cX9_judges 147 = .ok (.imul, 1) := by decide +kernel
theorem dX9_judges_148 : decode cX9_judges 148 = .ok (.iload 4, 2) := by decide +kernel
theorem dX9_judges_150 : decode cX9_judges 150 = .ok (.iadd, 1) := by decide +kernel
theorem dX9_judges_151 : decode cX9_judges 151 = .ok (.caload, 1) := by decide +kernel
theorem dX9_judges_152 : decode cX9_judges 152 = .ok (.istore 7, 2) := by decide +kernel
theorem dX9_judges_154 : decode cX9_judges 154 = .ok (.aload_n 0, 1) := by decide +kernel
theorem dX9_judges_155 : decode cX9_judges 155 = .ok (.getfield 62, 3) := by decide +kernel
theorem dX9_judges_158 : decode cX9_judges 158 = .ok (.bipush 20, 2) := by decide +kernel
theorem dX9_judges_160 : decode cX9_judges 160 = .ok (.iload_n 1, 1) := by decide +kernel
theorem dX9_judges_161 : decode cX9_judges 161 = .ok (.imul, 1) := by decide +kernel
theorem dX9_judges_162 : decode cX9_judges 162 = .ok (.iload 4, 2) := by decide +kernel
theorem dX9_judges_164 : decode cX9_judges 164 = .ok (.iadd, 1) := by decide +kernel
theorem dX9_judges_165 : decode cX9_judges 165 = .ok (.iaload, 1) := by decide +kernel
theorem dX9_judges_166 : decode cX9_judges 166 = .ok (.istore 8, 2) := by decide +kernel
theorem dX9_judges_168 : decode cX9_judges 168 = .ok (.aload_n 0, 1) := by decide +kernel
theorem dX9_judges_169 : decode cX9_judges 169 = .ok (.getfield 65, 3) := by decide +kernel
theorem dX9_judges_172 : decode cX9_judges 172 = .ok (.bipush 20, 2) := by decide +kernel
theorem dX9_judges_174 : decode cX9_judges 174 = .ok (.iload_n 1, 1) := by decide +kernel
theorem dX9_judges_175 : decode cX9_judges 175 = .ok (.imul, 1) := by decide +kernel
theorem dX9_judges_176 : decode cX9_judges 176 = .ok (.iload 4, 2) := by decide +kernel
theorem dX9_judges_178 : decode cX9_judges 178 = .ok (.iadd, 1) := by decide +kernel
theorem dX9_judges_179 : decode cX9_judges 179 = .ok (.iaload, 1) := by decide +kernel
theorem dX9_judges_180 : decode cX9_judges 180 = .ok (.istore 9, 2) := by decide +kernel
theorem dX9_judges_182 : decode cX9_judges 182 = .ok (.iinc 4 1, 3) := by decide +kernel
theorem dX9_judges_185 : decode cX9_judges 185 = .ok (.iload 7, 2) := by decide +kernel
theorem dX9_judges_187 : decode cX9_judges 187 = .ok (.bipush 104, 2) := by decide +kernel
theorem dX9_judges_189 : decode cX9_judges 189 = .ok (.if_icmp .ne 14, 3) := by decide +kernel
theorem dX9_judges_192 : decode cX9_judges 192 = .ok (.aload_n 0, 1) := by decide +kernel
theorem dX9_judges_193 : decode cX9_judges 193 = .ok (.getfield 56, 3) := by decide +kernel
theorem dX9_judges_196 : decode cX9_judges 196 = .ok (.iload_n 1, 1) := by decide +kernel
theorem dX9_judges_197 : decode cX9_judges 197 = .ok (.iaload, 1) := by decide +kernel
theorem dX9_judges_198 : decode cX9_judges 198 = .ok (.istore 4, 2) := by decide +kernel
theorem dX9_judges_200 : decode cX9_judges 200 = .ok (.goto 188, 3) := by decide +kernel
theorem dX9_judges_203 : decode cX9_judges 203 = .ok (.iload 7, 2) := by decide +kernel
theorem dX9_judges_205 : decode cX9_judges 205 = .ok (.bipush 105, 2) := by decide +kernel
theorem dX9_judges_207 : decode cX9_judges 207 = .ok (.if_icmp .ne 56, 3) := by decide +kernel
theorem dX9_judges_210 : decode cX9_judges 210 = .ok (.iload 5, 2) := by decide +kernel
theorem dX9_judges_212 : decode cX9_judges 212 = .ok (.aload_n 0, 1) := by decide +kernel
theorem dX9_judges_213 : decode cX9_judges 213 = .ok (.getfield 38, 3) := by decide +kernel
theorem dX9_judges_216 : decode cX9_judges 216 = .ok (.bipush 6, 2) := by decide +kernel
theorem dX9_judges_218 : decode cX9_judges 218 = .ok (.iload 6, 2) := by decide +kernel
theorem dX9_judges_220 : decode cX9_judges 220 = .ok (.imul, 1) := by decide +kernel
theorem dX9_judges_221 : decode cX9_judges 221 = .ok (.iload_n 2, 1) := by decide +kernel
theorem dX9_judges_222 : decode cX9_judges 222 = .ok (.iadd, 1) := by decide +kernel
theorem dX9_judges_223 : decode cX9_judges 223 = .ok (.iaload, 1) := by decide +kernel
theorem dX9_judges_224 : decode cX9_judges 224 = .ok (.if_icmp .ne 9, 3) := by decide +kernel
theorem dX9_judges_227 : decode cX9_judges 227 = .ok (.bipush 114, 2) := by decide +kernel
theorem dX9_judges_229 : decode cX9_judges 229 = .ok (.istore_n 3, 1) := by decide +kernel
theorem dX9_judges_230 : decode cX9_judges 230 = .ok (.goto 158, 3) := by decide +kernel
theorem dX9_judges_233 : decode cX9_judges 233 = .ok (.aload_n 0, 1) := by decide +kernel
theorem dX9_judges_234 : decode cX9_judges 234 = .ok (.getfield 80, 3) := by decide +kernel
theorem dX9_judges_237 : decode cX9_judges 237 = .ok (.iload 8, 2) := by decide +kernel
theorem dX9_judges_239 : decode cX9_judges 239 = .ok (.aload_n 0, 1) := by decide +kernel
theorem dX9_judges_240 : decode cX9_judges 240 = .ok (.getfield 35, 3) := by decide +kernel
theorem dX9_judges_243 : decode cX9_judges 243 = .ok (.bipush 24, 2) := by decide +kernel
theorem dX9_judges_245 : decode cX9_judges 245 = .ok (.iload 6, 2) := by decide +kernel
theorem dX9_judges_247 : decode cX9_judges 247 = .ok (.imul, 1) := by decide +kernel
theorem dX9_judges_248 : decode cX9_judges 248 = .ok (.iconst 4, 1) := by decide +kernel
theorem dX9_judges_249 : decode cX9_judges 249 = .ok (.iload_n 2, 1) := by decide +kernel
theorem dX9_judges_250 : decode cX9_judges 250 = .ok (.imul, 1) := by decide +kernel
theorem dX9_judges_251 : decode cX9_judges 251 = .ok (.iadd, 1) := by decide +kernel
theorem dX9_judges_252 : decode cX9_judges 252 = .ok (.iload 5, 2) := by decide +kernel
theorem dX9_judges_254 : decode cX9_judges 254 = .ok (.iadd, 1) := by decide +kernel
theorem dX9_judges_255 : decode cX9_judges 255 = .ok (.iaload, 1) := by decide +kernel
theorem dX9_judges_256 : decode cX9_judges 256 = .ok (.iastore, 1) := by decide +kernel
theorem dX9_judges_257 : decode cX9_judges 257 = .ok (.iinc 5 1, 3) := by decide +kernel
theorem dX9_judges_260 : decode cX9_judges 260 = .ok (.goto 128, 3) := by decide +kernel
theorem dX9_judges_263 : decode cX9_judges 263 = .ok (.iload 7, 2) := by decide +kernel
theorem dX9_judges_265 : decode cX9_judges 265 = .ok (.bipush 111, 2) := by decide +kernel
theorem dX9_judges_267 : decode cX9_judges 267 = .ok (.if_icmp .ne 20, 3) := by decide +kernel
theorem dX9_judges_270 : decode cX9_judges 270 = .ok (.aload_n 0, 1) := by decide +kernel
theorem dX9_judges_271 : decode cX9_judges 271 = .ok (.iload_n 1, 1) := by decide +kernel
theorem dX9_judges_272 : decode cX9_judges 272 = .ok (.iload_n 2, 1) := by decide +kernel
theorem dX9_judges_273 : decode cX9_judges 273 = .ok (.aload_n 0, 1) := by decide +kernel
theorem dX9_judges_274 : decode cX9_judges 274 = .ok (.getfield 80, 3) := by decide +kernel
theorem dX9_judges_277 : decode cX9_judges 277 = .ok (.iload 8, 2) := by decide +kernel
theorem dX9_judges_279 : decode cX9_judges 279 = .ok (.iaload, 1) := by decide +kernel
theorem dX9_judges_280 : decode cX9_judges 280 = .ok (.invokevirtual 148, 3) := by decide +kernel
theorem dX9_judges_283 : decode cX9_judges 283 = .ok (.istore_n 3, 1) := by decide +kernel
theorem dX9_judges_284 : decode cX9_judges 284 = .ok (.goto 104, 3) := by decide +kernel
theorem dX9_judges_287 : decode cX9_judges 287 = .ok (.iload 7, 2) := by decide +kernel
theorem dX9_judges_289 : decode cX9_judges 289 = .ok (.bipush 106, 2) := by decide +kernel
theorem dX9_judges_291 : decode cX9_judges 291 = .ok (.if_icmp .eq 10, 3) := by decide +kernel
theorem dX9_judges_294 : decode cX9_judges 294 = .ok (.iload 7, 2) := by decide +kernel
theorem dX9_judges_296 : decode cX9_judges 296 = .ok (.bipush 110, 2) := by decide +kernel
theorem dX9_judges_298 : decode cX9_judges 298 = .ok (.if_icmp .ne 79, 3) := by decide +kernel
theorem dX9_judges_301 : decode cX9_judges 301 = .ok (.iload 7, 2) := by decide +kernel
theorem dX9_judges_303 : decode cX9_judges 303 = .ok (.bipush 106, 2) := by decide +kernel
theorem dX9_judges_305 : decode cX9_judges 305 = .ok (.if_icmp .ne 21, 3) := by decide +kernel
theorem dX9_judges_308 : decode cX9_judges 308 = .ok (.aload_n 0, 1) := by decide +kernel
theorem dX9_judges_309 : decode cX9_judges 309 = .ok (.getfield 80, 3) := by decide +kernel
theorem dX9_judges_312 : decode cX9_judges 312 = .ok (.iload 8, 2) := by decide +kernel
theorem dX9_judges_314 : decode cX9_judges 314 = .ok (.iaload, 1) := by decide +kernel
theorem dX9_judges_315 : decode cX9_judges 315 = .ok (.ifCond .eq 7, 3) := by decide +kernel
theorem dX9_judges_318 : decode cX9_judges 318 = .ok (.iconst 1, 1) := by decide +kernel
theorem dX9_judges_319 : decode cX9_judges 319 = .ok (.goto 22, 3) := by decide +kernel
theorem dX9_judges_322 : decode cX9_judges 322 = .ok (.iconst 0, 1) := by decide +kernel
theorem dX9_judges_323 : decode cX9_judges 323 = .ok (.goto 18, 3) := by decide +kernel
theorem dX9_judges_326 : decode cX9_judges 326 = .ok (.aload_n 0, 1) := by decide +kernel
theorem dX9_judges_327 : decode cX9_judges 327 = .ok (.getfield 80, 3) := by decide +kernel
theorem dX9_judges_330 : decode cX9_judges 330 = .ok (.iload 8, 2) := by decide +kernel
theorem dX9_judges_332 : decode cX9_judges 332 = .ok (.iaload, 1) := by decide +kernel
theorem dX9_judges_333 : decode cX9_judges 333 = .ok (.ifCond .ge 7, 3) := by decide +kernel
theorem dX9_judges_336 : decode cX9_judges 336 = .ok (.iconst 1, 1) := by decide +kernel
theorem dX9_judges_337 : decode cX9_judges 337 = .ok (.goto 4, 3) := by decide +kernel
theorem dX9_judges_340 : decode cX9_judges 340 = .ok (.iconst 0, 1) := by decide +kernel
theorem dX9_judges_341 : decode cX9_judges 341 = .ok (.istore 10, 2) := by decide +kernel
theorem dX9_judges_343 : decode cX9_judges 343 = .ok (.iload 10, 2) := by decide +kernel
theorem dX9_judges_345 : decode cX9_judges 345 = .ok (.ifCond .eq 20, 3) := by decide +kernel
theorem dX9_judges_348 : decode cX9_judges 348 = .ok (.iload 9, 2) := by decide +kernel
theorem dX9_judges_350 : decode cX9_judges 350 = .ok (.aload_n 0, 1) := by decide +kernel
theorem dX9_judges_351 : decode cX9_judges 351 = .ok (.getfield 56, 3) := by decide +kernel
theorem dX9_judges_354 : decode cX9_judges 354 = .ok (.iload_n 1, 1) := by decide +kernel
theorem dX9_judges_355 : decode cX9_judges 355 = .ok (.iaload, 1) := by decide +kernel
theorem dX9_judges_356 : decode cX9_judges 356 = .ok (.if_icmp .lt 9, 3) := by decide +kernel
theorem dX9_judges_359 : decode cX9_judges 359 = .ok (.bipush 114, 2) := by decide +kernel
theorem dX9_judges_361 : decode cX9_judges 361 = .ok (.istore_n 3, 1) := by decide +kernel
theorem dX9_judges_362 : decode cX9_judges 362 = .ok (.goto 12, 3) := by decide +kernel
theorem dX9_judges_365 : decode cX9_judges 365 = .ok (.iload 10, 2) := by decide +kernel
theorem dX9_judges_367 : decode cX9_judges 367 = .ok (.ifCond .eq 7, 3) := by decide +kernel
theorem dX9_judges_370 : decode cX9_judges 370 = .ok (.iload 9, 2) := by decide +kernel
theorem dX9_judges_372 : decode cX9_judges 372 = .ok (.istore 4, 2) := by decide +kernel
theorem dX9_judges_374 : decode cX9_judges 374 = .ok (.goto 14, 3) := by decide +kernel
theorem dX9_judges_377 : decode cX9_judges 377 = .ok (.aload_n 0, 1) := by decide +kernel
theorem dX9_judges_378 : decode cX9_judges 378 = .ok (.iload 7, 2) := by decide +kernel
theorem dX9_judges_380 : decode cX9_judges 380 = .ok (.iload 8, 2) := by decide +kernel
theorem dX9_judges_382 : decode cX9_judges 382 = .ok (.iload 9, 2) := by decide +kernel
theorem dX9_judges_384 : decode cX9_judges 384 = .ok (.invokevirtual 152, 3) := by decide +kernel
theorem dX9_judges_387 : decode cX9_judges 387 = .ok (.istore_n 3, 1) := by decide +kernel
theorem dX9_judges_388 : decode cX9_judges 388 = .ok (.goto (-327), 3) := by decide +kernel
theorem dX9_judges_391 : decode cX9_judges 391 = .ok (.aload_n 0, 1) := by decide +kernel
theorem dX9_judges_392 : decode cX9_judges 392 = .ok (.getfield 68, 3) := by decide +kernel
theorem dX9_judges_395 : decode cX9_judges 395 = .ok (.bipush 6, 2) := by decide +kernel
theorem dX9_judges_397 : decode cX9_judges 397 = .ok (.iload_n 1, 1) := by decide +kernel
theorem dX9_judges_398 : decode cX9_judges 398 = .ok (.imul, 1) := by decide +kernel
theorem dX9_judges_399 : decode cX9_judges 399 = .ok (.iload_n 2, 1) := by decide +kernel
theorem dX9_judges_400 : decode cX9_judges 400 = .ok (.iadd, 1) := by decide +kernel
theorem dX9_judges_401 : decode cX9_judges 401 = .ok (.iload_n 3, 1) := by decide +kernel
theorem dX9_judges_402 : decode cX9_judges 402 = .ok (.castore, 1) := by decide +kernel
theorem dX9_judges_403 : decode cX9_judges 403 = .ok (.return_, 1) := by decide +kernel
theorem dX9_tells_0 : decode cX9_tells 0 = .ok (.aload_n 0, 1) := by decide +kernel
theorem dX9_tells_1 : decode cX9_tells 1 = .ok (.getfield 77, 3) := by decide +kernel
theorem dX9_tells_4 : decode cX9_tells 4 = .ok (.bipush 6, 2) := by decide +kernel
theorem dX9_tells_6 : decode cX9_tells 6 = .ok (.iload_n 1, 1) := by decide +kernel
theorem dX9_tells_7 : decode cX9_tells 7 = .ok (.imul, 1) := by decide +kernel
theorem dX9_tells_8 : decode cX9_tells 8 = .ok (.iload_n 2, 1) := by decide +kernel
theorem dX9_tells_9 : decode cX9_tells 9 = .ok (.iadd, 1) := by decide +kernel
theorem dX9_tells_10 : decode cX9_tells 10 = .ok (.iaload, 1) := by decide +kernel
theorem dX9_tells_11 : decode cX9_tells 11 = .ok (.bipush 6, 2) := by decide +kernel
theorem dX9_tells_13 : decode cX9_tells 13 = .ok (.if_icmp .ne 6, 3) := by decide +kernel
theorem dX9_tells_16 : decode cX9_tells 16 = .ok (.bipush 108, 2) := by decide +kernel
theorem dX9_tells_18 : decode cX9_tells 18 = .ok (.ireturn, 1) := by decide +kernel
theorem dX9_tells_19 : decode cX9_tells 19 = .ok (.aload_n 0, 1) := by decide +kernel
theorem dX9_tells_20 : decode cX9_tells 20 = .ok (.getfield 74, 3) := by decide +kernel
theorem dX9_tells_23 : decode cX9_tells 23 = .ok (.bipush 36, 2) := by decide +kernel
theorem dX9_tells_25 : decode cX9_tells 25 = .ok (.iload_n 1, 1) := by decide +kernel
theorem dX9_tells_26 : decode cX9_tells 26 = .ok (.imul, 1) := by decide +kernel
theorem dX9_tells_27 : decode cX9_tells 27 = .ok (.bipush 6, 2) := by decide +kernel
theorem dX9_tells_29 : decode cX9_tells 29 = .ok (.iload_n 2, 1) := by decide +kernel
theorem dX9_tells_30 : decode cX9_tells 30 = .ok (.imul, 1) := by decide +kernel
theorem dX9_tells_31 : decode cX9_tells 31 = .ok (.iadd, 1) := by decide +kernel
theorem dX9_tells_32 : decode cX9_tells 32 = .ok (.aload_n 0, 1) := by decide +kernel
theorem dX9_tells_33 : decode cX9_tells 33 = .ok (.getfield 77, 3) := by decide +kernel
theorem dX9_tells_36 : decode cX9_tells 36 = .ok (.bipush 6, 2) := by decide +kernel
theorem dX9_tells_38 : decode cX9_tells 38 = .ok (.iload_n 1, 1) := by decide +kernel
theorem dX9_tells_39 : decode cX9_tells 39 = .ok (.imul, 1) := by decide +kernel
theorem dX9_tells_40 : decode cX9_tells 40 = .ok (.iload_n 2, 1) := by decide +kernel
theorem dX9_tells_41 : decode cX9_tells 41 = .ok (.iadd, 1) := by decide +kernel
theorem dX9_tells_42 : decode cX9_tells 42 = .ok (.iaload, 1) := by decide +kernel
theorem dX9_tells_43 : decode cX9_tells 43 = .ok (.iadd, 1) := by decide +kernel
theorem dX9_tells_44 : decode cX9_tells 44 = .ok (.iload_n 3, 1) := by decide +kernel
theorem dX9_tells_45 : decode cX9_tells 45 = .ok (.iastore, 1) := by decide +kernel
theorem dX9_tells_46 : decode cX9_tells 46 = .ok (.aload_n 0, 1) := by decide +kernel
theorem dX9_tells_47 : decode cX9_tells 47 = .ok (.getfield 77, 3) := by decide +kernel
theorem dX9_tells_50 : decode cX9_tells 50 = .ok (.bipush 6, 2) := by decide +kernel
theorem dX9_tells_52 : decode cX9_tells 52 = .ok (.iload_n 1, 1) := by decide +kernel
theorem dX9_tells_53 : decode cX9_tells 53 = .ok (.imul, 1) := by decide +kernel
theorem dX9_tells_54 : decode cX9_tells 54 = .ok (.iload_n 2, 1) := by decide +kernel
theorem dX9_tells_55 : decode cX9_tells 55 = .ok (.iadd, 1) := by decide +kernel
theorem dX9_tells_56 : decode cX9_tells 56 = .ok (.dup2, 1) := by decide +kernel
theorem dX9_tells_57 : decode cX9_tells 57 = .ok (.iaload, 1) := by decide +kernel
theorem dX9_tells_58 : decode cX9_tells 58 = .ok (.iconst 1, 1) := by decide +kernel
theorem dX9_tells_59 : decode cX9_tells 59 = .ok (.iadd, 1) := by decide +kernel
theorem dX9_tells_60 : decode cX9_tells 60 = .ok (.iastore, 1) := by decide +kernel
theorem dX9_tells_61 : decode cX9_tells 61 = .ok (.bipush 32, 2) := by decide +kernel
theorem dX9_tells_63 : decode cX9_tells 63 = .ok (.ireturn, 1) := by decide +kernel
theorem dX9_reckons_0 : decode cX9_reckons 0 = .ok (.iload_n 1, 1) := by decide +kernel
theorem dX9_reckons_1 : decode cX9_reckons 1 = .ok (.bipush 100, 2) := by decide +kernel
theorem dX9_reckons_3 : decode cX9_reckons 3 = .ok (.if_icmp .ne 15, 3) := by decide +kernel
theorem dX9_reckons_6 : decode cX9_reckons 6 = .ok (.aload_n 0, 1) := by decide +kernel
theorem dX9_reckons_7 : decode cX9_reckons 7 = .ok (.getfield 80, 3) := by decide +kernel
theorem dX9_reckons_10 : decode cX9_reckons 10 = .ok (.iload_n 3, 1) := by decide +kernel
theorem dX9_reckons_11 : decode cX9_reckons 11 = .ok (.iaload, 1) := by decide +kernel
theorem dX9_reckons_12 : decode cX9_reckons 12 = .ok (.ifCond .ne 6, 3) := by decide +kernel
theorem dX9_reckons_15 : decode cX9_reckons 15 = .ok (.bipush 114, 2) := by decide +kernel
theorem dX9_reckons_17 : decode cX9_reckons 17 = .ok (.ireturn, 1) := by decide +kernel
theorem dX9_reckons_18 : decode cX9_reckons 18 = .ok (.iload_n 1, 1) := by decide +kernel
theorem dX9_reckons_19 : decode cX9_reckons 19 = .ok (.bipush 115, 2) := by decide +kernel
theorem dX9_reckons_21 : decode cX9_reckons 21 = .ok (.if_icmp .ne 13, 3) := by decide +kernel
theorem dX9_reckons_24 : decode cX9_reckons 24 = .ok (.aload_n 0, 1) := by decide +kernel
theorem dX9_reckons_25 : decode cX9_reckons 25 = .ok (.getfield 80, 3) := by decide +kernel
theorem dX9_reckons_28 : decode cX9_reckons 28 = .ok (.iload_n 2, 1) := by decide +kernel
theorem dX9_reckons_29 : decode cX9_reckons 29 = .ok (.iload_n 3, 1) := by decide +kernel
theorem dX9_reckons_30 : decode cX9_reckons 30 = .ok (.iastore, 1) := by decide +kernel
theorem dX9_reckons_31 : decode cX9_reckons 31 = .ok (.goto 66, 3) := by decide +kernel
theorem dX9_reckons_34 : decode cX9_reckons 34 = .ok (.iload_n 1, 1) := by decide +kernel
theorem dX9_reckons_35 : decode cX9_reckons 35 = .ok (.bipush 97, 2) := by decide +kernel
theorem dX9_reckons_37 : decode cX9_reckons 37 = .ok (.if_icmp .ne 21, 3) := by decide +kernel
theorem dX9_reckons_40 : decode cX9_reckons 40 = .ok (.aload_n 0, 1) := by decide +kernel
theorem dX9_reckons_41 : decode cX9_reckons 41 = .ok (.getfield 80, 3) := by decide +kernel
theorem dX9_reckons_44 : decode cX9_reckons 44 = .ok (.iload_n 2, 1) := by decide +kernel
theorem dX9_reckons_45 : decode cX9_reckons 45 = .ok (.dup2, 1) := by decide +kernel
theorem dX9_reckons_46 : decode cX9_reckons 46 = .ok (.iaload, 1) := by decide +kernel
theorem dX9_reckons_47 : decode cX9_reckons 47 = .ok (.aload_n 0, 1) := by decide +kernel
theorem dX9_reckons_48 : decode cX9_reckons 48 = .ok (.getfield 80, 3) := by decide +kernel
theorem dX9_reckons_51 : decode cX9_reckons 51 = .ok (.iload_n 3, 1) := by decide +kernel
theorem dX9_reckons_52 : decode cX9_reckons 52 = .ok (.iaload, 1) := by decide +kernel
theorem dX9_reckons_53 : decode cX9_reckons 53 = .ok (.iadd, 1) := by decide +kernel
theorem dX9_reckons_54 : decode cX9_reckons 54 = .ok (.iastore, 1) := by decide +kernel
theorem dX9_reckons_55 : decode cX9_reckons 55 = .ok (.goto 42, 3) := by decide +kernel
theorem dX9_reckons_58 : decode cX9_reckons 58 = .ok (.iload_n 1, 1) := by decide +kernel
theorem dX9_reckons_59 : decode cX9_reckons 59 = .ok (.bipush 109, 2) := by decide +kernel
theorem dX9_reckons_61 : decode cX9_reckons 61 = .ok (.if_icmp .ne 21, 3) := by decide +kernel
theorem dX9_reckons_64 : decode cX9_reckons 64 = .ok (.aload_n 0, 1) := by decide +kernel
theorem dX9_reckons_65 : decode cX9_reckons 65 = .ok (.getfield 80, 3) := by decide +kernel
theorem dX9_reckons_68 : decode cX9_reckons 68 = .ok (.iload_n 2, 1) := by decide +kernel
theorem dX9_reckons_69 : decode cX9_reckons 69 = .ok (.dup2, 1) := by decide +kernel
theorem dX9_reckons_70 : decode cX9_reckons 70 = .ok (.iaload, 1) := by decide +kernel
theorem dX9_reckons_71 : decode cX9_reckons 71 = .ok (.aload_n 0, 1) := by decide +kernel
theorem dX9_reckons_72 : decode cX9_reckons 72 = .ok (.getfield 80, 3) := by decide +kernel
theorem dX9_reckons_75 : decode cX9_reckons 75 = .ok (.iload_n 3, 1) := by decide +kernel
theorem dX9_reckons_76 : decode cX9_reckons 76 = .ok (.iaload, 1) := by decide +kernel
theorem dX9_reckons_77 : decode cX9_reckons 77 = .ok (.imul, 1) := by decide +kernel
theorem dX9_reckons_78 : decode cX9_reckons 78 = .ok (.iastore, 1) := by decide +kernel
theorem dX9_reckons_79 : decode cX9_reckons 79 = .ok (.goto 18, 3) := by decide +kernel
theorem dX9_reckons_82 : decode cX9_reckons 82 = .ok (.aload_n 0, 1) := by decide +kernel
theorem dX9_reckons_83 : decode cX9_reckons 83 = .ok (.getfield 80, 3) := by decide +kernel
theorem dX9_reckons_86 : decode cX9_reckons 86 = .ok (.iload_n 2, 1) := by decide +kernel
theorem dX9_reckons_87 : decode cX9_reckons 87 = .ok (.dup2, 1) := by decide +kernel
theorem dX9_reckons_88 : decode cX9_reckons 88 = .ok (.iaload, 1) := by decide +kernel
theorem dX9_reckons_89 : decode cX9_reckons 89 = .ok (.aload_n 0, 1) := by decide +kernel
theorem dX9_reckons_90 : decode cX9_reckons 90 = .ok (.getfield 80, 3) := by decide +kernel
theorem dX9_reckons_93 : decode cX9_reckons 93 = .ok (.iload_n 3, 1) := by decide +kernel
theorem dX9_reckons_94 : decode cX9_reckons 94 = .ok (.iaload, 1) := by decide +kernel
theorem dX9_reckons_95 : decode cX9_reckons 95 = .ok (.idiv, 1) := by decide +kernel
theorem dX9_reckons_96 : decode cX9_reckons 96 = .ok (.iastore, 1) := by decide +kernel
theorem dX9_reckons_97 : decode cX9_reckons 97 = .ok (.bipush 32, 2) := by decide +kernel
theorem dX9_reckons_99 : decode cX9_reckons 99 = .ok (.ireturn, 1) := by decide +kernel
theorem dX9_isExpected_0 : decode cX9_isExpected 0 = .ok (.aload_n 0, 1) := by decide +kernel
theorem dX9_isExpected_1 : decode cX9_isExpected 1 = .ok (.getfield 50, 3) := by decide +kernel
theorem dX9_isExpected_4 : decode cX9_isExpected 4 = .ok (.iload_n 1, 1) := by decide +kernel
theorem dX9_isExpected_5 : decode cX9_isExpected 5 = .ok (.iaload, 1) := by decide +kernel
theorem dX9_isExpected_6 : decode cX9_isExpected 6 = .ok (.istore_n 3, 1) := by decide +kernel
theorem dX9_isExpected_7 : decode cX9_isExpected 7 = .ok (.aload_n 0, 1) := by decide +kernel
theorem dX9_isExpected_8 : decode cX9_isExpected 8 = .ok (.getfield 77, 3) := by decide +kernel
theorem dX9_isExpected_11 : decode cX9_isExpected 11 = .ok (.bipush 6, 2) := by decide +kernel
theorem dX9_isExpected_13 : decode cX9_isExpected 13 = .ok (.iload_n 1, 1) := by decide +kernel
theorem dX9_isExpected_14 : decode cX9_isExpected 14 = .ok (.imul, 1) := by decide +kernel
theorem dX9_isExpected_15 : decode cX9_isExpected 15 = .ok (.iload_n 2, 1) := by decide +kernel
theorem dX9_isExpected_16 : decode cX9_isExpected 16 = .ok (.iadd, 1) := by decide +kernel
theorem dX9_isExpected_17 : decode cX9_isExpected 17 = .ok (.iaload, 1) := by decide +kernel
theorem dX9_isExpected_18 : decode cX9_isExpected 18 = .ok (.aload_n 0, 1) := by decide +kernel
theorem dX9_isExpected_19 : decode cX9_isExpected 19 = .ok (.getfield 44, 3) := by decide +kernel
theorem dX9_isExpected_22 : decode cX9_isExpected 22 = .ok (.bipush 6, 2) := by decide +kernel
theorem dX9_isExpected_24 : decode cX9_isExpected 24 = .ok (.iload_n 3, 1) := by decide +kernel
theorem dX9_isExpected_25 : decode cX9_isExpected 25 = .ok (.imul, 1) := by decide +kernel
theorem dX9_isExpected_26 : decode cX9_isExpected 26 = .ok (.iload_n 2, 1) := by decide +kernel
theorem dX9_isExpected_27 : decode cX9_isExpected 27 = .ok (.iadd, 1) := by decide +kernel
theorem dX9_isExpected_28 : decode cX9_isExpected 28 = .ok (.iaload, 1) := by decide +kernel
theorem dX9_isExpected_29 : decode cX9_isExpected 29 = .ok (.if_icmp .ne 7, 3) := by decide +kernel
theorem dX9_isExpected_32 : decode cX9_isExpected 32 = .ok (.iconst 1, 1) := by decide +kernel
theorem dX9_isExpected_33 : decode cX9_isExpected 33 = .ok (.goto 4, 3) := by decide +kernel
theorem dX9_isExpected_36 : decode cX9_isExpected 36 = .ok (.iconst 0, 1) := by decide +kernel
theorem dX9_isExpected_37 : decode cX9_isExpected 37 = .ok (.istore 4, 2) := by decide +kernel
theorem dX9_isExpected_39 : decode cX9_isExpected 39 = .ok (.iconst 0, 1) := by decide +kernel
theorem dX9_isExpected_40 : decode cX9_isExpected 40 = .ok (.istore 5, 2) := by decide +kernel
theorem dX9_isExpected_42 : decode cX9_isExpected 42 = .ok (.iload 5, 2) := by decide +kernel
theorem dX9_isExpected_44 : decode cX9_isExpected 44 = .ok (.aload_n 0, 1) := by decide +kernel
theorem dX9_isExpected_45 : decode cX9_isExpected 45 = .ok (.getfield 77, 3) := by decide +kernel
theorem dX9_isExpected_48 : decode cX9_isExpected 48 = .ok (.bipush 6, 2) := by decide +kernel
theorem dX9_isExpected_50 : decode cX9_isExpected 50 = .ok (.iload_n 1, 1) := by decide +kernel
theorem dX9_isExpected_51 : decode cX9_isExpected 51 = .ok (.imul, 1) := by decide +kernel
theorem dX9_isExpected_52 : decode cX9_isExpected 52 = .ok (.iload_n 2, 1) := by decide +kernel
theorem dX9_isExpected_53 : decode cX9_isExpected 53 = .ok (.iadd, 1) := by decide +kernel
theorem dX9_isExpected_54 : decode cX9_isExpected 54 = .ok (.iaload, 1) := by decide +kernel
theorem dX9_isExpected_55 : decode cX9_isExpected 55 = .ok (.if_icmp .ge 58, 3) := by decide +kernel
theorem dX9_isExpected_58 : decode cX9_isExpected 58 = .ok (.iload 4, 2) := by decide +kernel
theorem dX9_isExpected_60 : decode cX9_isExpected 60 = .ok (.ifCond .eq 53, 3) := by decide +kernel
theorem dX9_isExpected_63 : decode cX9_isExpected 63 = .ok (.aload_n 0, 1) := by decide +kernel
theorem dX9_isExpected_64 : decode cX9_isExpected 64 = .ok (.getfield 74, 3) := by decide +kernel
theorem dX9_isExpected_67 : decode cX9_isExpected 67 = .ok (.bipush 36, 2) := by decide +kernel
theorem dX9_isExpected_69 : decode cX9_isExpected 69 = .ok (.iload_n 1, 1) := by decide +kernel
theorem dX9_isExpected_70 : decode cX9_isExpected 70 = .ok (.imul, 1) := by decide +kernel
theorem dX9_isExpected_71 : decode cX9_isExpected 71 = .ok (.bipush 6, 2) := by decide +kernel
theorem dX9_isExpected_73 : decode cX9_isExpected 73 = .ok (.iload_n 2, 1) := by decide +kernel
theorem dX9_isExpected_74 : decode cX9_isExpected 74 = .ok (.imul, 1) := by decide +kernel
theorem dX9_isExpected_75 : decode cX9_isExpected 75 = .ok (.iadd, 1) := by decide +kernel
theorem dX9_isExpected_76 : decode cX9_isExpected 76 = .ok (.iload 5, 2) := by decide +kernel
theorem dX9_isExpected_78 : decode cX9_isExpected 78 = .ok (.iadd, 1) := by decide +kernel
theorem dX9_isExpected_79 : decode cX9_isExpected 79 = .ok (.iaload, 1) := by decide +kernel
theorem dX9_isExpected_80 : decode cX9_isExpected 80 = .ok (.aload_n 0, 1) := by decide +kernel
theorem dX9_isExpected_81 : decode cX9_isExpected 81 = .ok (.getfield 41, 3) := by decide +kernel
theorem dX9_isExpected_84 : decode cX9_isExpected 84 = .ok (.bipush 36, 2) := by decide +kernel
theorem dX9_isExpected_86 : decode cX9_isExpected 86 = .ok (.iload_n 3, 1) := by decide +kernel
theorem dX9_isExpected_87 : decode cX9_isExpected 87 = .ok (.imul, 1) := by decide +kernel
theorem dX9_isExpected_88 : decode cX9_isExpected 88 = .ok (.bipush 6, 2) := by decide +kernel
theorem dX9_isExpected_90 : decode cX9_isExpected 90 = .ok (.iload_n 2, 1) := by decide +kernel
theorem dX9_isExpected_91 : decode cX9_isExpected 91 = .ok (.imul, 1) := by decide +kernel
theorem dX9_isExpected_92 : decode cX9_isExpected 92 = .ok (.iadd, 1) := by decide +kernel
theorem dX9_isExpected_93 : decode cX9_isExpected 93 = .ok (.iload 5, 2) := by decide +kernel
theorem dX9_isExpected_95 : decode cX9_isExpected 95 = .ok (.iadd, 1) := by decide +kernel
theorem dX9_isExpected_96 : decode cX9_isExpected 96 = .ok (.iaload, 1) := by decide +kernel
theorem dX9_isExpected_97 : decode cX9_isExpected 97 = .ok (.if_icmp .ne 7, 3) := by decide +kernel
theorem dX9_isExpected_100 : decode cX9_isExpected 100 = .ok (.iconst 1, 1) := by decide +kernel
theorem dX9_isExpected_101 : decode cX9_isExpected 101 = .ok (.goto 4, 3) := by decide +kernel
theorem dX9_isExpected_104 : decode cX9_isExpected 104 = .ok (.iconst 0, 1) := by decide +kernel
theorem dX9_isExpected_105 : decode cX9_isExpected 105 = .ok (.istore 4, 2) := by decide +kernel
theorem dX9_isExpected_107 : decode cX9_isExpected 107 = .ok (.iinc 5 1, 3) := by decide +kernel
theorem dX9_isExpected_110 : decode cX9_isExpected 110 = .ok (.goto (-68), 3) := by decide +kernel
theorem dX9_isExpected_113 : decode cX9_isExpected 113 = .ok (.iload 4, 2) := by decide +kernel
theorem dX9_isExpected_115 : decode cX9_isExpected 115 = .ok (.ireturn, 1) := by decide +kernel
theorem dX9_failedOf_0 : decode cX9_failedOf 0 = .ok (.iconst 0, 1) := by decide +kernel
theorem dX9_failedOf_1 : decode cX9_failedOf 1 = .ok (.istore_n 2, 1) := by decide +kernel
theorem dX9_failedOf_2 : decode cX9_failedOf 2 = .ok (.iload_n 2, 1) := by decide +kernel
theorem dX9_failedOf_3 : decode cX9_failedOf 3 = .ok (.aload_n 0, 1) := by decide +kernel
theorem dX9_failedOf_4 : decode cX9_failedOf 4 = .ok (.getfield 32, 3) := by decide +kernel
theorem dX9_failedOf_7 : decode cX9_failedOf 7 = .ok (.aload_n 0, 1) := by decide +kernel
theorem dX9_failedOf_8 : decode cX9_failedOf 8 = .ok (.getfield 50, 3) := by decide +kernel
theorem dX9_failedOf_11 : decode cX9_failedOf 11 = .ok (.iload_n 1, 1) := by decide +kernel
theorem dX9_failedOf_12 : decode cX9_failedOf 12 = .ok (.iaload, 1) := by decide +kernel
theorem dX9_failedOf_13 : decode cX9_failedOf 13 = .ok (.iaload, 1) := by decide +kernel
theorem dX9_failedOf_14 : decode cX9_failedOf 14 = .ok (.if_icmp .ge 27, 3) := by decide +kernel
theorem dX9_failedOf_17 : decode cX9_failedOf 17 = .ok (.aload_n 0, 1) := by decide +kernel
theorem dX9_failedOf_18 : decode cX9_failedOf 18 = .ok (.getfield 68, 3) := by decide +kernel
theorem dX9_failedOf_21 : decode cX9_failedOf 21 = .ok (.bipush 6, 2) := by decide +kernel
theorem dX9_failedOf_23 : decode cX9_failedOf 23 = .ok (.iload_n 1, 1) := by decide +kernel
theorem dX9_failedOf_24 : decode cX9_failedOf 24 = .ok (.imul, 1) := by decide +kernel
theorem dX9_failedOf_25 : decode cX9_failedOf 25 = .ok (.iload_n 2, 1) := by decide +kernel
theorem dX9_failedOf_26 : decode cX9_failedOf 26 = .ok (.iadd, 1) := by decide +kernel
theorem dX9_failedOf_27 : decode cX9_failedOf 27 = .ok (.caload, 1) := by decide +kernel
theorem dX9_failedOf_28 : decode cX9_failedOf 28 = .ok (.bipush 111, 2) := by decide +kernel
theorem dX9_failedOf_30 : decode cX9_failedOf 30 = .ok (.if_icmp .eq 5, 3) := by decide +kernel
theorem dX9_failedOf_33 : decode cX9_failedOf 33 = .ok (.iload_n 2, 1) := by decide +kernel
theorem dX9_failedOf_34 : decode cX9_failedOf 34 = .ok (.ireturn, 1) := by decide +kernel
theorem dX9_failedOf_35 : decode cX9_failedOf 35 = .ok (.iinc 2 1, 3) := by decide +kernel
theorem dX9_failedOf_38 : decode cX9_failedOf 38 = .ok (.goto (-36), 3) := by decide +kernel
theorem dX9_failedOf_41 : decode cX9_failedOf 41 = .ok (.iconst (-1), 1) := by decide +kernel
theorem dX9_failedOf_42 : decode cX9_failedOf 42 = .ok (.ireturn, 1) := by decide +kernel
theorem dX9_verdictOf_0 : decode cX9_verdictOf 0 = .ok (.aload_n 0, 1) := by decide +kernel
theorem dX9_verdictOf_1 : decode cX9_verdictOf 1 = .ok (.iload_n 1, 1) := by decide +kernel
theorem dX9_verdictOf_2 : decode cX9_verdictOf 2 = .ok (.invokevirtual 156, 3) := by decide +kernel
theorem dX9_verdictOf_5 : decode cX9_verdictOf 5 = .ok (.istore_n 2, 1) := by decide +kernel
theorem dX9_verdictOf_6 : decode cX9_verdictOf 6 = .ok (.iload_n 2, 1) := by decide +kernel
theorem dX9_verdictOf_7 : decode cX9_verdictOf 7 = .ok (.iconst (-1), 1) := by decide +kernel
theorem dX9_verdictOf_8 : decode cX9_verdictOf 8 = .ok (.if_icmp .ne 8, 3) := by decide +kernel
theorem dX9_verdictOf_11 : decode cX9_verdictOf 11 = .ok (.bipush 97, 2) := by decide +kernel
theorem dX9_verdictOf_13 : decode cX9_verdictOf 13 = .ok (.goto 14, 3) := by decide +kernel
theorem dX9_verdictOf_16 : decode cX9_verdictOf 16 = .ok (.aload_n 0, 1) := by decide +kernel
theorem dX9_verdictOf_17 : decode cX9_verdictOf 17 = .ok (.getfield 68, 3) := by decide +kernel
theorem dX9_verdictOf_20 : decode cX9_verdictOf 20 = .ok (.bipush 6, 2) := by decide +kernel
theorem dX9_verdictOf_22 : decode cX9_verdictOf 22 = .ok (.iload_n 1, 1) := by decide +kernel
theorem dX9_verdictOf_23 : decode cX9_verdictOf 23 = .ok (.imul, 1) := by decide +kernel
theorem dX9_verdictOf_24 : decode cX9_verdictOf 24 = .ok (.iload_n 2, 1) := by decide +kernel
theorem dX9_verdictOf_25 : decode cX9_verdictOf 25 = .ok (.iadd, 1) := by decide +kernel
theorem dX9_verdictOf_26 : decode cX9_verdictOf 26 = .ok (.caload, 1) := by decide +kernel
theorem dX9_verdictOf_27 : decode cX9_verdictOf 27 = .ok (.ireturn, 1) := by decide +kernel
theorem dX9_judgesAnew_0 : decode cX9_judgesAnew 0 = .ok (.aload_n 0, 1) := by decide +kernel
theorem dX9_judgesAnew_1 : decode cX9_judgesAnew 1 = .ok (.getfield 32, 3) := by decide +kernel
theorem dX9_judgesAnew_4 : decode cX9_judgesAnew 4 = .ok (.iload_n 1, 1) := by decide +kernel
theorem dX9_judgesAnew_5 : decode cX9_judgesAnew 5 = .ok (.iaload, 1) := by decide +kernel
theorem dX9_judgesAnew_6 : decode cX9_judgesAnew 6 = .ok (.istore 4, 2) := by decide +kernel
theorem dX9_judgesAnew_8 : decode cX9_judgesAnew 8 = .ok (.iconst 0, 1) := by decide +kernel
theorem dX9_judgesAnew_9 : decode cX9_judgesAnew 9 = .ok (.istore 5, 2) := by decide +kernel
theorem dX9_judgesAnew_11 : decode cX9_judgesAnew 11 = .ok (.iconst 0, 1) := by decide +kernel
theorem dX9_judgesAnew_12 : decode cX9_judgesAnew 12 = .ok (.istore 6, 2) := by decide +kernel
theorem dX9_judgesAnew_14 : decode cX9_judgesAnew 14 = .ok (.iload 6, 2) := by decide +kernel
theorem dX9_judgesAnew_16 : decode cX9_judgesAnew 16 = .ok (.aload_n 0, 1) := by decide +kernel
theorem dX9_judgesAnew_17 : decode cX9_judgesAnew 17 = .ok (.getfield 130, 3) := by decide +kernel
theorem dX9_judgesAnew_20 : decode cX9_judgesAnew 20 = .ok (.if_icmp .ge 74, 3) := by decide +kernel
theorem dX9_judgesAnew_23 : decode cX9_judgesAnew 23 = .ok (.aload_n 0, 1) := by decide +kernel
theorem dX9_judgesAnew_24 : decode cX9_judgesAnew 24 = .ok (.getfield 50, 3) := by decide +kernel
theorem dX9_judgesAnew_27 : decode cX9_judgesAnew 27 = .ok (.iload 6, 2) := by decide +kernel
theorem dX9_judgesAnew_29 : decode cX9_judgesAnew 29 = .ok (.iaload, 1) := by decide +kernel
theorem dX9_judgesAnew_30 : decode cX9_judgesAnew 30 = .ok (.iload_n 1, 1) := by decide +kernel
theorem dX9_judgesAnew_31 : decode cX9_judgesAnew 31 = .ok (.if_icmp .eq 6, 3) := by decide +kernel
theorem dX9_judgesAnew_34 : decode cX9_judgesAnew 34 = .ok (.goto 54, 3) := by decide +kernel
theorem dX9_judgesAnew_37 : decode cX9_judgesAnew 37 = .ok (.aload_n 0, 1) := by decide +kernel
theorem dX9_judgesAnew_38 : decode cX9_judgesAnew 38 = .ok (.getfield 32, 3) := by decide +kernel
theorem dX9_judgesAnew_41 : decode cX9_judgesAnew 41 = .ok (.iload_n 1, 1) := by decide +kernel
theorem dX9_judgesAnew_42 : decode cX9_judgesAnew 42 = .ok (.iload 4, 2) := by decide +kernel
theorem dX9_judgesAnew_44 : decode cX9_judgesAnew 44 = .ok (.iastore, 1) := by decide +kernel
theorem dX9_judgesAnew_45 : decode cX9_judgesAnew 45 = .ok (.aload_n 0, 1) := by decide +kernel
theorem dX9_judgesAnew_46 : decode cX9_judgesAnew 46 = .ok (.iload 6, 2) := by decide +kernel
theorem dX9_judgesAnew_48 : decode cX9_judgesAnew 48 = .ok (.invokevirtual 160, 3) := by decide +kernel
theorem dX9_judgesAnew_51 : decode cX9_judgesAnew 51 = .ok (.istore 7, 2) := by decide +kernel
theorem dX9_judgesAnew_53 : decode cX9_judgesAnew 53 = .ok (.aload_n 0, 1) := by decide +kernel
theorem dX9_judgesAnew_54 : decode cX9_judgesAnew 54 = .ok (.getfield 32, 3) := by decide +kernel
theorem dX9_judgesAnew_57 : decode cX9_judgesAnew 57 = .ok (.iload_n 1, 1) := by decide +kernel
theorem dX9_judgesAnew_58 : decode cX9_judgesAnew 58 = .ok (.iload_n 3, 1) := by decide +kernel
theorem dX9_judgesAnew_59 : decode cX9_judgesAnew 59 = .ok (.iastore, 1) := by decide +kernel
theorem dX9_judgesAnew_60 : decode cX9_judgesAnew 60 = .ok (.aload_n 0, 1) := by decide +kernel
theorem dX9_judgesAnew_61 : decode cX9_judgesAnew 61 = .ok (.iload 6, 2) := by decide +kernel
theorem dX9_judgesAnew_63 : decode cX9_judgesAnew 63 = .ok (.iload_n 2, 1) := by decide +kernel
theorem dX9_judgesAnew_64 : decode cX9_judgesAnew 64 = .ok (.invokevirtual 164, 3) := by decide +kernel
theorem dX9_judgesAnew_67 : decode cX9_judgesAnew 67 = .ok (.iload 5, 2) := by decide +kernel
theorem dX9_judgesAnew_69 : decode cX9_judgesAnew 69 = .ok (.aload_n 0, 1) := by decide +kernel
theorem dX9_judgesAnew_70 : decode cX9_judgesAnew 70 = .ok (.iload 6, 2) := by decide +kernel
theorem dX9_judgesAnew_72 : decode cX9_judgesAnew 72 = .ok (.invokevirtual 160, 3) := by decide +kernel
theorem dX9_judgesAnew_75 : decode cX9_judgesAnew 75 = .ok (.iload 7, 2) := by decide +kernel
theorem dX9_judgesAnew_77 : decode cX9_judgesAnew 77 = .ok (.if_icmp .eq 7, 3) := by decide +kernel
theorem dX9_judgesAnew_80 : decode cX9_judgesAnew 80 = .ok (.iconst 1, 1) := by decide +kernel
theorem dX9_judgesAnew_81 : decode cX9_judgesAnew 81 = .ok (.goto 4, 3) := by decide +kernel
theorem dX9_judgesAnew_84 : decode cX9_judgesAnew 84 = .ok (.iconst 0, 1) := by decide +kernel
theorem dX9_judgesAnew_85 : decode cX9_judgesAnew 85 = .ok (.iadd, 1) := by decide +kernel
theorem dX9_judgesAnew_86 : decode cX9_judgesAnew 86 = .ok (.istore 5, 2) := by decide +kernel
theorem dX9_judgesAnew_88 : decode cX9_judgesAnew 88 = .ok (.iinc 6 1, 3) := by decide +kernel
theorem dX9_judgesAnew_91 : decode cX9_judgesAnew 91 = .ok (.goto (-77), 3) := by decide +kernel
theorem dX9_judgesAnew_94 : decode cX9_judgesAnew 94 = .ok (.aload_n 0, 1) := by decide +kernel
theorem dX9_judgesAnew_95 : decode cX9_judgesAnew 95 = .ok (.getfield 32, 3) := by decide +kernel
theorem dX9_judgesAnew_98 : decode cX9_judgesAnew 98 = .ok (.iload_n 1, 1) := by decide +kernel
theorem dX9_judgesAnew_99 : decode cX9_judgesAnew 99 = .ok (.iload_n 3, 1) := by decide +kernel
theorem dX9_judgesAnew_100 : decode cX9_judgesAnew 100 = .ok (.iastore, 1) := by decide +kernel
theorem dX9_judgesAnew_101 : decode cX9_judgesAnew 101 = .ok (.aload_n 0, 1) := by decide +kernel
theorem dX9_judgesAnew_102 : decode cX9_judgesAnew 102 = .ok (.iload_n 1, 1) := by decide +kernel
theorem dX9_judgesAnew_103 : decode cX9_judgesAnew 103 = .ok (.invokevirtual 167, 3) := by decide +kernel
theorem dX9_judgesAnew_106 : decode cX9_judgesAnew 106 = .ok (.iload 5, 2) := by decide +kernel
theorem dX9_judgesAnew_108 : decode cX9_judgesAnew 108 = .ok (.ireturn, 1) := by decide +kernel
theorem dX9_hasSolved_0 : decode cX9_hasSolved 0 = .ok (.iconst 0, 1) := by decide +kernel
theorem dX9_hasSolved_1 : decode cX9_hasSolved 1 = .ok (.istore_n 3, 1) := by decide +kernel
theorem dX9_hasSolved_2 : decode cX9_hasSolved 2 = .ok (.iconst 0, 1) := by decide +kernel
theorem dX9_hasSolved_3 : decode cX9_hasSolved 3 = .ok (.istore 4, 2) := by decide +kernel
theorem dX9_hasSolved_5 : decode cX9_hasSolved 5 = .ok (.iload 4, 2) := by decide +kernel
theorem dX9_hasSolved_7 : decode cX9_hasSolved 7 = .ok (.aload_n 0, 1) := by decide +kernel
theorem dX9_hasSolved_8 : decode cX9_hasSolved 8 = .ok (.getfield 130, 3) := by decide +kernel
theorem dX9_hasSolved_11 : decode cX9_hasSolved 11 = .ok (.if_icmp .ge 50, 3) := by decide +kernel
theorem dX9_hasSolved_14 : decode cX9_hasSolved 14 = .ok (.iload_n 3, 1) := by decide +kernel
theorem dX9_hasSolved_15 : decode cX9_hasSolved 15 = .ok (.aload_n 0, 1) := by decide +kernel
theorem dX9_hasSolved_16 : decode cX9_hasSolved 16 = .ok (.getfield 47, 3) := by decide +kernel
theorem dX9_hasSolved_19 : decode cX9_hasSolved 19 = .ok (.iload 4, 2) := by decide +kernel
theorem dX9_hasSolved_21 : decode cX9_hasSolved 21 = .ok (.iaload, 1) := by decide +kernel
theorem dX9_hasSolved_22 : decode cX9_hasSolved 22 = .ok (.iload_n 1, 1) := by decide +kernel
theorem dX9_hasSolved_23 : decode cX9_hasSolved 23 = .ok (.if_icmp .ne 29, 3) := by decide +kernel
theorem dX9_hasSolved_26 : decode cX9_hasSolved 26 = .ok (.aload_n 0, 1) := by decide +kernel
theorem dX9_hasSolved_27 : decode cX9_hasSolved 27 = .ok (.getfield 50, 3) := by decide +kernel
theorem dX9_hasSolved_30 : decode cX9_hasSolved 30 = .ok (.iload 4, 2) := by decide +kernel
theorem dX9_hasSolved_32 : decode cX9_hasSolved 32 = .ok (.iaload, 1) := by decide +kernel
theorem dX9_hasSolved_33 : decode cX9_hasSolved 33 = .ok (.iload_n 2, 1) := by decide +kernel
theorem dX9_hasSolved_34 : decode cX9_hasSolved 34 = .ok (.if_icmp .ne 18, 3) := by decide +kernel
theorem dX9_hasSolved_37 : decode cX9_hasSolved 37 = .ok (.aload_n 0, 1) := by decide +kernel
theorem dX9_hasSolved_38 : decode cX9_hasSolved 38 = .ok (.iload 4, 2) := by decide +kernel
theorem dX9_hasSolved_40 : decode cX9_hasSolved 40 = .ok (.invokevirtual 160, 3) := by decide +kernel
theorem dX9_hasSolved_43 : decode cX9_hasSolved 43 = .ok (.bipush 97, 2) := by decide +kernel
theorem dX9_hasSolved_45 : decode cX9_hasSolved 45 = .ok (.if_icmp .ne 7, 3) := by decide +kernel
theorem dX9_hasSolved_48 : decode cX9_hasSolved 48 = .ok (.iconst 1, 1) := by decide +kernel
theorem dX9_hasSolved_49 : decode cX9_hasSolved 49 = .ok (.goto 4, 3) := by decide +kernel
theorem dX9_hasSolved_52 : decode cX9_hasSolved 52 = .ok (.iconst 0, 1) := by decide +kernel
theorem dX9_hasSolved_53 : decode cX9_hasSolved 53 = .ok (.ior, 1) := by decide +kernel
theorem dX9_hasSolved_54 : decode cX9_hasSolved 54 = .ok (.istore_n 3, 1) := by decide +kernel
theorem dX9_hasSolved_55 : decode cX9_hasSolved 55 = .ok (.iinc 4 1, 3) := by decide +kernel
theorem dX9_hasSolved_58 : decode cX9_hasSolved 58 = .ok (.goto (-53), 3) := by decide +kernel
theorem dX9_hasSolved_61 : decode cX9_hasSolved 61 = .ok (.iload_n 3, 1) := by decide +kernel
theorem dX9_hasSolved_62 : decode cX9_hasSolved 62 = .ok (.ireturn, 1) := by decide +kernel
theorem dX9_calls_0 : decode cX9_calls 0 = .ok (.iconst 0, 1) := by decide +kernel
theorem dX9_calls_1 : decode cX9_calls 1 = .ok (.istore_n 2, 1) := by decide +kernel
theorem dX9_calls_2 : decode cX9_calls 2 = .ok (.iload_n 2, 1) := by decide +kernel
theorem dX9_calls_3 : decode cX9_calls 3 = .ok (.aload_n 0, 1) := by decide +kernel
theorem dX9_calls_4 : decode cX9_calls 4 = .ok (.getfield 127, 3) := by decide +kernel
theorem dX9_calls_7 : decode cX9_calls 7 = .ok (.if_icmp .ge 88, 3) := by decide +kernel
theorem dX9_calls_10 : decode cX9_calls 10 = .ok (.aload_n 0, 1) := by decide +kernel
theorem dX9_calls_11 : decode cX9_calls 11 = .ok (.getfield 83, 3) := by decide +kernel
theorem dX9_calls_14 : decode cX9_calls 14 = .ok (.iconst 5, 1) := by decide +kernel
theorem dX9_calls_15 : decode cX9_calls 15 = .ok (.iload_n 2, 1) := by decide +kernel
theorem dX9_calls_16 : decode cX9_calls 16 = .ok (.imul, 1) := by decide +kernel
theorem dX9_calls_17 : decode cX9_calls 17 = .ok (.iload_n 1, 1) := by decide +kernel
theorem dX9_calls_18 : decode cX9_calls 18 = .ok (.iadd, 1) := by decide +kernel
theorem dX9_calls_19 : decode cX9_calls 19 = .ok (.caload, 1) := by decide +kernel
theorem dX9_calls_20 : decode cX9_calls 20 = .ok (.bipush 45, 2) := by decide +kernel
theorem dX9_calls_22 : decode cX9_calls 22 = .ok (.if_icmp .eq 67, 3) := by decide +kernel
theorem dX9_calls_25 : decode cX9_calls 25 = .ok (.aload_n 0, 1) := by decide +kernel
theorem dX9_calls_26 : decode cX9_calls 26 = .ok (.iload_n 2, 1) := by decide +kernel
theorem dX9_calls_27 : decode cX9_calls 27 = .ok (.iload_n 1, 1) := by decide +kernel
theorem dX9_calls_28 : decode cX9_calls 28 = .ok (.invokevirtual 171, 3) := by decide +kernel
theorem dX9_calls_31 : decode cX9_calls 31 = .ok (.ifCond .eq 6, 3) := by decide +kernel
theorem dX9_calls_34 : decode cX9_calls 34 = .ok (.goto 55, 3) := by decide +kernel
theorem dX9_calls_37 : decode cX9_calls 37 = .ok (.aload_n 0, 1) := by decide +kernel
theorem dX9_calls_38 : decode cX9_calls 38 = .ok (.getfield 83, 3) := by decide +kernel
theorem dX9_calls_41 : decode cX9_calls 41 = .ok (.iconst 5, 1) := by decide +kernel
theorem dX9_calls_42 : decode cX9_calls 42 = .ok (.iload_n 2, 1) := by decide +kernel
theorem dX9_calls_43 : decode cX9_calls 43 = .ok (.imul, 1) := by decide +kernel
theorem dX9_calls_44 : decode cX9_calls 44 = .ok (.iload_n 1, 1) := by decide +kernel
theorem dX9_calls_45 : decode cX9_calls 45 = .ok (.iadd, 1) := by decide +kernel
theorem dX9_calls_46 : decode cX9_calls 46 = .ok (.caload, 1) := by decide +kernel
theorem dX9_calls_47 : decode cX9_calls 47 = .ok (.bipush 111, 2) := by decide +kernel
theorem dX9_calls_49 : decode cX9_calls 49 = .ok (.if_icmp .ne 28, 3) := by decide +kernel
theorem dX9_calls_52 : decode cX9_calls 52 = .ok (.aload_n 0, 1) := by decide +kernel
theorem dX9_calls_53 : decode cX9_calls 53 = .ok (.getfield 89, 3) := by decide +kernel
theorem dX9_calls_56 : decode cX9_calls 56 = .ok (.aload_n 0, 1) := by decide +kernel
theorem dX9_calls_57 : decode cX9_calls 57 = .ok (.getfield 26, 3) := by decide +kernel
theorem dX9_calls_60 : decode cX9_calls 60 = .ok (.iload_n 1, 1) := by decide +kernel
theorem dX9_calls_61 : decode cX9_calls 61 = .ok (.iaload, 1) := by decide +kernel
theorem dX9_calls_62 : decode cX9_calls 62 = .ok (.dup2, 1) := by decide +kernel
theorem dX9_calls_63 : decode cX9_calls 63 = .ok (.iaload, 1) := by decide +kernel
theorem dX9_calls_64 : decode cX9_calls 64 = .ok (.iconst 1, 1) := by decide +kernel
theorem dX9_calls_65 : decode cX9_calls 65 = .ok (.iadd, 1) := by decide +kernel
theorem dX9_calls_66 : decode cX9_calls 66 = .ok (.iastore, 1) := by decide +kernel
theorem dX9_calls_67 : decode cX9_calls 67 = .ok (.aload_n 0, 1) := by decide +kernel
theorem dX9_calls_68 : decode cX9_calls 68 = .ok (.dup, 1) := by decide +kernel
theorem dX9_calls_69 : decode cX9_calls 69 = .ok (.getfield 174, 3) := by decide +kernel
theorem dX9_calls_72 : decode cX9_calls 72 = .ok (.iconst 1, 1) := by decide +kernel
theorem dX9_calls_73 : decode cX9_calls 73 = .ok (.iadd, 1) := by decide +kernel
theorem dX9_calls_74 : decode cX9_calls 74 = .ok (.putfield 174, 3) := by decide +kernel
theorem dX9_calls_77 : decode cX9_calls 77 = .ok (.aload_n 0, 1) := by decide +kernel
theorem dX9_calls_78 : decode cX9_calls 78 = .ok (.getfield 83, 3) := by decide +kernel
theorem dX9_calls_81 : decode cX9_calls 81 = .ok (.iconst 5, 1) := by decide +kernel
theorem dX9_calls_82 : decode cX9_calls 82 = .ok (.iload_n 2, 1) := by decide +kernel
theorem dX9_calls_83 : decode cX9_calls 83 = .ok (.imul, 1) := by decide +kernel
theorem dX9_calls_84 : decode cX9_calls 84 = .ok (.iload_n 1, 1) := by decide +kernel
theorem dX9_calls_85 : decode cX9_calls 85 = .ok (.iadd, 1) := by decide +kernel
theorem dX9_calls_86 : decode cX9_calls 86 = .ok (.bipush 45, 2) := by decide +kernel
theorem dX9_calls_88 : decode cX9_calls 88 = .ok (.castore, 1) := by decide +kernel
theorem dX9_calls_89 : decode cX9_calls 89 = .ok (.iinc 2 1, 3) := by decide +kernel
theorem dX9_calls_92 : decode cX9_calls 92 = .ok (.goto (-90), 3) := by decide +kernel
theorem dX9_calls_95 : decode cX9_calls 95 = .ok (.aload_n 0, 1) := by decide +kernel
theorem dX9_calls_96 : decode cX9_calls 96 = .ok (.aload_n 0, 1) := by decide +kernel
theorem dX9_calls_97 : decode cX9_calls 97 = .ok (.getfield 26, 3) := by decide +kernel
theorem dX9_calls_100 : decode cX9_calls 100 = .ok (.iload_n 1, 1) := by decide +kernel
theorem dX9_calls_101 : decode cX9_calls 101 = .ok (.iaload, 1) := by decide +kernel
theorem dX9_calls_102 : decode cX9_calls 102 = .ok (.invokevirtual 177, 3) := by decide +kernel
theorem dX9_calls_105 : decode cX9_calls 105 = .ok (.iconst 0, 1) := by decide +kernel
theorem dX9_calls_106 : decode cX9_calls 106 = .ok (.istore_n 2, 1) := by decide +kernel
theorem dX9_calls_107 : decode cX9_calls 107 = .ok (.iload_n 2, 1) := by decide +kernel
theorem dX9_calls_108 : decode cX9_calls 108 = .ok (.aload_n 0, 1) := by decide +kernel
theorem dX9_calls_109 : decode cX9_calls 109 = .ok (.getfield 127, 3) := by decide +kernel
theorem dX9_calls_112 : decode cX9_calls 112 = .ok (.if_icmp .ge 15, 3) := by decide +kernel
theorem dX9_calls_115 : decode cX9_calls 115 = .ok (.aload_n 0, 1) := by decide +kernel
theorem dX9_calls_116 : decode cX9_calls 116 = .ok (.iload_n 2, 1) := by decide +kernel
theorem dX9_calls_117 : decode cX9_calls 117 = .ok (.iload_n 1, 1) := by decide +kernel
theorem dX9_calls_118 : decode cX9_calls 118 = .ok (.invokevirtual 180, 3) := by decide +kernel
theorem dX9_calls_121 : decode cX9_calls 121 = .ok (.iinc 2 1, 3) := by decide +kernel
theorem dX9_calls_124 : decode cX9_calls 124 = .ok (.goto (-17), 3) := by decide +kernel
theorem dX9_calls_127 : decode cX9_calls 127 = .ok (.return_, 1) := by decide +kernel
theorem dX9_sends_0 : decode cX9_sends 0 = .ok (.aload_n 0, 1) := by decide +kernel
theorem dX9_sends_1 : decode cX9_sends 1 = .ok (.getfield 83, 3) := by decide +kernel
theorem dX9_sends_4 : decode cX9_sends 4 = .ok (.iconst 5, 1) := by decide +kernel
theorem dX9_sends_5 : decode cX9_sends 5 = .ok (.iload_n 1, 1) := by decide +kernel
theorem dX9_sends_6 : decode cX9_sends 6 = .ok (.imul, 1) := by decide +kernel
theorem dX9_sends_7 : decode cX9_sends 7 = .ok (.iload_n 2, 1) := by decide +kernel
theorem dX9_sends_8 : decode cX9_sends 8 = .ok (.iadd, 1) := by decide +kernel
theorem dX9_sends_9 : decode cX9_sends 9 = .ok (.caload, 1) := by decide +kernel
theorem dX9_sends_10 : decode cX9_sends 10 = .ok (.bipush 45, 2) := by decide +kernel
theorem dX9_sends_12 : decode cX9_sends 12 = .ok (.if_icmp .ne 12, 3) := by decide +kernel
theorem dX9_sends_15 : decode cX9_sends 15 = .ok (.aload_n 0, 1) := by decide +kernel
theorem dX9_sends_16 : decode cX9_sends 16 = .ok (.iload_n 1, 1) := by decide +kernel
theorem dX9_sends_17 : decode cX9_sends 17 = .ok (.iload_n 2, 1) := by decide +kernel
theorem dX9_sends_18 : decode cX9_sends 18 = .ok (.invokevirtual 171, 3) := by decide +kernel
theorem dX9_sends_21 : decode cX9_sends 21 = .ok (.ifCond .ne 4, 3) := by decide +kernel
theorem dX9_sends_24 : decode cX9_sends 24 = .ok (.return_, 1) := by decide +kernel
theorem dX9_sends_25 : decode cX9_sends 25 = .ok (.aload_n 0, 1) := by decide +kernel
theorem dX9_sends_26 : decode cX9_sends 26 = .ok (.dup, 1) := by decide +kernel
theorem dX9_sends_27 : decode cX9_sends 27 = .ok (.getfield 183, 3) := by decide +kernel
theorem dX9_sends_30 : decode cX9_sends 30 = .ok (.iconst 1, 1) := by decide +kernel
theorem dX9_sends_31 : decode cX9_sends 31 = .ok (.iadd, 1) := by decide +kernel
theorem dX9_sends_32 : decode cX9_sends 32 = .ok (.putfield 183, 3) := by decide +kernel
theorem dX9_sends_35 : decode cX9_sends 35 = .ok (.aload_n 0, 1) := by decide +kernel
theorem dX9_sends_36 : decode cX9_sends 36 = .ok (.getfield 86, 3) := by decide +kernel
theorem dX9_sends_39 : decode cX9_sends 39 = .ok (.iconst 5, 1) := by decide +kernel
theorem dX9_sends_40 : decode cX9_sends 40 = .ok (.iload_n 1, 1) := by decide +kernel
theorem dX9_sends_41 : decode cX9_sends 41 = .ok (.imul, 1) := by decide +kernel
theorem dX9_sends_42 : decode cX9_sends 42 = .ok (.iload_n 2, 1) := by decide +kernel
theorem dX9_sends_43 : decode cX9_sends 43 = .ok (.iadd, 1) := by decide +kernel
theorem dX9_sends_44 : decode cX9_sends 44 = .ok (.aload_n 0, 1) := by decide +kernel
theorem dX9_sends_45 : decode cX9_sends 45 = .ok (.getfield 183, 3) := by decide +kernel
theorem dX9_sends_48 : decode cX9_sends 48 = .ok (.iastore, 1) := by decide +kernel
theorem dX9_sends_49 : decode cX9_sends 49 = .ok (.aload_n 0, 1) := by decide +kernel
theorem dX9_sends_50 : decode cX9_sends 50 = .ok (.getfield 83, 3) := by decide +kernel
theorem dX9_sends_53 : decode cX9_sends 53 = .ok (.iconst 5, 1) := by decide +kernel
theorem dX9_sends_54 : decode cX9_sends 54 = .ok (.iload_n 1, 1) := by decide +kernel
theorem dX9_sends_55 : decode cX9_sends 55 = .ok (.imul, 1) := by decide +kernel
theorem dX9_sends_56 : decode cX9_sends 56 = .ok (.iload_n 2, 1) := by decide +kernel
theorem dX9_sends_57 : decode cX9_sends 57 = .ok (.iadd, 1) := by decide +kernel
theorem dX9_sends_58 : decode cX9_sends 58 = .ok (.bipush 113, 2) := by decide +kernel
theorem dX9_sends_60 : decode cX9_sends 60 = .ok (.castore, 1) := by decide +kernel
theorem dX9_sends_61 : decode cX9_sends 61 = .ok (.aload_n 0, 1) := by decide +kernel
theorem dX9_sends_62 : decode cX9_sends 62 = .ok (.aload_n 0, 1) := by decide +kernel
theorem dX9_sends_63 : decode cX9_sends 63 = .ok (.getfield 26, 3) := by decide +kernel
theorem dX9_sends_66 : decode cX9_sends 66 = .ok (.iload_n 2, 1) := by decide +kernel
theorem dX9_sends_67 : decode cX9_sends 67 = .ok (.iaload, 1) := by decide +kernel
theorem dX9_sends_68 : decode cX9_sends 68 = .ok (.invokevirtual 177, 3) := by decide +kernel
theorem dX9_sends_71 : decode cX9_sends 71 = .ok (.return_, 1) := by decide +kernel
theorem dX9_waitingAt_0 : decode cX9_waitingAt 0 = .ok (.iconst 0, 1) := by decide +kernel
theorem dX9_waitingAt_1 : decode cX9_waitingAt 1 = .ok (.istore_n 3, 1) := by decide +kernel
theorem dX9_waitingAt_2 : decode cX9_waitingAt 2 = .ok (.iconst 0, 1) := by decide +kernel
theorem dX9_waitingAt_3 : decode cX9_waitingAt 3 = .ok (.istore 4, 2) := by decide +kernel
theorem dX9_waitingAt_5 : decode cX9_waitingAt 5 = .ok (.iconst 0, 1) := by decide +kernel
theorem dX9_waitingAt_6 : decode cX9_waitingAt 6 = .ok (.istore 5, 2) := by decide +kernel
theorem dX9_waitingAt_8 : decode cX9_waitingAt 8 = .ok (.iload 5, 2) := by decide +kernel
theorem dX9_waitingAt_10 : decode cX9_waitingAt 10 = .ok (.iload_n 2, 1) := by decide +kernel
theorem dX9_waitingAt_11 : decode cX9_waitingAt 11 = .ok (.if_icmp .gt 180, 3) := by decide +kernel
theorem dX9_waitingAt_14 : decode cX9_waitingAt 14 = .ok (.iconst (-1), 1) := by decide +kernel
theorem dX9_waitingAt_15 : decode cX9_waitingAt 15 = .ok (.istore 4, 2) := by decide +kernel
theorem dX9_waitingAt_17 : decode cX9_waitingAt 17 = .ok (.iconst 0, 1) := by decide +kernel
theorem dX9_waitingAt_18 : decode cX9_waitingAt 18 = .ok (.istore 6, 2) := by decide +kernel
theorem dX9_waitingAt_20 : decode cX9_waitingAt 20 = .ok (.iload 6, 2) := by decide +kernel
theorem dX9_waitingAt_22 : decode cX9_waitingAt 22 = .ok (.aload_n 0, 1) := by decide +kernel
theorem dX9_waitingAt_23 : decode cX9_waitingAt 23 = .ok (.getfield 127, 3) := by decide +kernel
theorem dX9_waitingAt_26 : decode cX9_waitingAt 26 = .ok (.if_icmp .ge 132, 3) := by decide +kernel
theorem dX9_waitingAt_29 : decode cX9_waitingAt 29 = .ok (.iconst 0, 1) := by decide +kernel
theorem dX9_waitingAt_30 : decode cX9_waitingAt 30 = .ok (.istore 7, 2) := by decide +kernel
theorem dX9_waitingAt_32 : decode cX9_waitingAt 32 = .ok (.iload 7, 2) := by decide +kernel
theorem dX9_waitingAt_34 : decode cX9_waitingAt 34 = .ok (.aload_n 0, 1) := by decide +kernel
theorem dX9_waitingAt_35 : decode cX9_waitingAt 35 = .ok (.getfield 124, 3) := by decide +kernel
theorem dX9_waitingAt_38 : decode cX9_waitingAt 38 = .ok (.if_icmp .ge 114, 3) := by decide +kernel
theorem dX9_waitingAt_41 : decode cX9_waitingAt 41 = .ok (.aload_n 0, 1) := by decide +kernel
theorem dX9_waitingAt_42 : decode cX9_waitingAt 42 = .ok (.getfield 83, 3) := by decide +kernel
theorem dX9_waitingAt_45 : decode cX9_waitingAt 45 = .ok (.iconst 5, 1) := by decide +kernel
theorem dX9_waitingAt_46 : decode cX9_waitingAt 46 = .ok (.iload 6, 2) := by decide +kernel
theorem dX9_waitingAt_48 : decode cX9_waitingAt 48 = .ok (.imul, 1) := by decide +kernel
theorem dX9_waitingAt_49 : decode cX9_waitingAt 49 = .ok (.iload 7, 2) := by decide +kernel
theorem dX9_waitingAt_51 : decode cX9_waitingAt 51 = .ok (.iadd, 1) := by decide +kernel
theorem dX9_waitingAt_52 : decode cX9_waitingAt 52 = .ok (.caload, 1) := by decide +kernel
theorem dX9_waitingAt_53 : decode cX9_waitingAt 53 = .ok (.bipush 113, 2) := by decide +kernel
theorem dX9_waitingAt_55 : decode cX9_waitingAt 55 = .ok (.if_icmp .ne 34, 3) := by decide +kernel
theorem dX9_waitingAt_58 : decode cX9_waitingAt 58 = .ok (.aload_n 0, 1) := by decide +kernel
theorem dX9_waitingAt_59 : decode cX9_waitingAt 59 = .ok (.getfield 26, 3) := by decide +kernel
theorem dX9_waitingAt_62 : decode cX9_waitingAt 62 = .ok (.iload 7, 2) := by decide +kernel
theorem dX9_waitingAt_64 : decode cX9_waitingAt 64 = .ok (.iaload, 1) := by decide +kernel
theorem dX9_waitingAt_65 : decode cX9_waitingAt 65 = .ok (.iload_n 1, 1) := by decide +kernel
theorem dX9_waitingAt_66 : decode cX9_waitingAt 66 = .ok (.if_icmp .ne 23, 3) := by decide +kernel
theorem dX9_waitingAt_69 : decode cX9_waitingAt 69 = .ok (.aload_n 0, 1) := by decide +kernel
theorem dX9_waitingAt_70 : decode cX9_waitingAt 70 = .ok (.getfield 86, 3) := by decide +kernel
theorem dX9_waitingAt_73 : decode cX9_waitingAt 73 = .ok (.iconst 5, 1) := by decide +kernel
theorem dX9_waitingAt_74 : decode cX9_waitingAt 74 = .ok (.iload 6, 2) := by decide +kernel
theorem dX9_waitingAt_76 : decode cX9_waitingAt 76 = .ok (.imul, 1) := by decide +kernel
theorem dX9_waitingAt_77 : decode cX9_waitingAt 77 = .ok (.iload 7, 2) := by decide +kernel
theorem dX9_waitingAt_79 : decode cX9_waitingAt 79 = .ok (.iadd, 1) := by decide +kernel
theorem dX9_waitingAt_80 : decode cX9_waitingAt 80 = .ok (.iaload, 1) := by decide +kernel
theorem dX9_waitingAt_81 : decode cX9_waitingAt 81 = .ok (.iload_n 3, 1) := by decide +kernel
theorem dX9_waitingAt_82 : decode cX9_waitingAt 82 = .ok (.if_icmp .le 7, 3) := by decide +kernel
theorem dX9_waitingAt_85 : decode cX9_waitingAt 85 = .ok (.iconst 1, 1) := by decide +kernel
theorem dX9_waitingAt_86 : decode cX9_waitingAt 86 = .ok (.goto 4, 3) := by decide +kernel
theorem dX9_waitingAt_89 : decode cX9_waitingAt 89 = .ok (.iconst 0, 1) := by decide +kernel
theorem dX9_waitingAt_90 : decode cX9_waitingAt 90 = .ok (.istore 8, 2) := by decide +kernel
theorem dX9_waitingAt_92 : decode cX9_waitingAt 92 = .ok (.iload 8, 2) := by decide +kernel
theorem dX9_waitingAt_94 : decode cX9_waitingAt 94 = .ok (.ifCond .eq 52, 3) := by decide +kernel
theorem dX9_waitingAt_97 : decode cX9_waitingAt 97 = .ok (.iload 4, 2) := by decide +kernel
theorem dX9_waitingAt_99 : decode cX9_waitingAt 99 = .ok (.iconst (-1), 1) := by decide +kernel
theorem dX9_waitingAt_100 : decode cX9_waitingAt 100 = .ok (.if_icmp .eq 36, 3) := by decide +kernel
theorem dX9_waitingAt_103 : decode cX9_waitingAt 103 = .ok (.aload_n 0, 1) := by decide +kernel
theorem dX9_waitingAt_104 : decode cX9_waitingAt 104 = .ok (.getfield 86, 3) := by decide +kernel
theorem dX9_waitingAt_107 : decode cX9_waitingAt 107 = .ok (.iconst 5, 1) := by decide +kernel
theorem dX9_waitingAt_108 : decode cX9_waitingAt 108 = .ok (.iload 6, 2) := by decide +kernel
theorem dX9_waitingAt_110 : decode cX9_waitingAt 110 = .ok (.imul, 1) := by decide +kernel
theorem dX9_waitingAt_111 : decode cX9_waitingAt 111 = .ok (.iload 7, 2) := by decide +kernel
theorem dX9_waitingAt_113 : decode cX9_waitingAt 113 = .ok (.iadd, 1) := by decide +kernel
theorem dX9_waitingAt_114 : decode cX9_waitingAt 114 = .ok (.iaload, 1) := by decide +kernel
theorem dX9_waitingAt_115 : decode cX9_waitingAt 115 = .ok (.aload_n 0, 1) := by decide +kernel
theorem dX9_waitingAt_116 : decode cX9_waitingAt 116 = .ok (.getfield 86, 3) := by decide +kernel
theorem dX9_waitingAt_119 : decode cX9_waitingAt 119 = .ok (.iconst 5, 1) := by decide +kernel
theorem dX9_waitingAt_120 : decode cX9_waitingAt 120 = .ok (.iload 4, 2) := by decide +kernel
theorem dX9_waitingAt_122 : decode cX9_waitingAt 122 = .ok (.bipush 10, 2) := by decide +kernel
theorem dX9_waitingAt_124 : decode cX9_waitingAt 124 = .ok (.idiv, 1) := by decide +kernel
theorem dX9_waitingAt_125 : decode cX9_waitingAt 125 = .ok (.imul, 1) := by decide +kernel
theorem dX9_waitingAt_126 : decode cX9_waitingAt 126 = .ok (.iload 4, 2) := by decide +kernel
theorem dX9_waitingAt_128 : decode cX9_waitingAt 128 = .ok (.bipush 10, 2) := by decide +kernel
theorem dX9_waitingAt_130 : decode cX9_waitingAt 130 = .ok (.irem, 1) := by decide +kernel
theorem dX9_waitingAt_131 : decode cX9_waitingAt 131 = .ok (.iadd, 1) := by decide +kernel
theorem dX9_waitingAt_132 : decode cX9_waitingAt 132 = .ok (.iaload, 1) := by decide +kernel
theorem dX9_waitingAt_133 : decode cX9_waitingAt 133 = .ok (.if_icmp .ge 13, 3) := by decide +kernel
theorem dX9_waitingAt_136 : decode cX9_waitingAt 136 = .ok (.bipush 10, 2) := by decide +kernel
theorem dX9_waitingAt_138 : decode cX9_waitingAt 138 = .ok (.iload 6, 2) := by decide +kernel
theorem dX9_waitingAt_140 : decode cX9_waitingAt 140 = .ok (.imul, 1) := by decide +kernel
theorem dX9_waitingAt_141 : decode cX9_waitingAt 141 = .ok (.iload 7, 2) := by decide +kernel
theorem dX9_waitingAt_143 : decode cX9_waitingAt 143 = .ok (.iadd, 1) := by decide +kernel
theorem dX9_waitingAt_144 : decode cX9_waitingAt 144 = .ok (.istore 4, 2) := by decide +kernel
theorem dX9_waitingAt_146 : decode cX9_waitingAt 146 = .ok (.iinc 7 1, 3) := by decide +kernel
theorem dX9_waitingAt_149 : decode cX9_waitingAt 149 = .ok (.goto (-117), 3) := by decide +kernel
theorem dX9_waitingAt_152 : decode cX9_waitingAt 152 = .ok (.iinc 6 1, 3) := by decide +kernel
theorem dX9_waitingAt_155 : decode cX9_waitingAt 155 = .ok (.goto (-135), 3) := by decide +kernel
theorem dX9_waitingAt_158 : decode cX9_waitingAt 158 = .ok (.iload 4, 2) := by decide +kernel
theorem dX9_waitingAt_160 : decode cX9_waitingAt 160 = .ok (.iconst (-1), 1) := by decide +kernel
theorem dX9_waitingAt_161 : decode cX9_waitingAt 161 = .ok (.if_icmp .ne 5, 3) := by decide +kernel
theorem dX9_waitingAt_164 : decode cX9_waitingAt 164 = .ok (.iconst (-1), 1) := by decide +kernel
theorem dX9_waitingAt_165 : decode cX9_waitingAt 165 = .ok (.ireturn, 1) := by decide +kernel
theorem dX9_waitingAt_166 : decode cX9_waitingAt 166 = .ok (.aload_n 0, 1) := by decide +kernel
theorem dX9_waitingAt_167 : decode cX9_waitingAt 167 = .ok (.getfield 86, 3) := by decide +kernel
theorem dX9_waitingAt_170 : decode cX9_waitingAt 170 = .ok (.iconst 5, 1) := by decide +kernel
theorem dX9_waitingAt_171 : decode cX9_waitingAt 171 = .ok (.iload 4, 2) := by decide +kernel
theorem dX9_waitingAt_173 : decode cX9_waitingAt 173 = .ok (.bipush 10, 2) := by decide +kernel
theorem dX9_waitingAt_175 : decode cX9_waitingAt 175 = .ok (.idiv, 1) := by decide +kernel
theorem dX9_waitingAt_176 : decode cX9_waitingAt 176 = .ok (.imul, 1) := by decide +kernel
theorem dX9_waitingAt_177 : decode cX9_waitingAt 177 = .ok (.iload 4, 2) := by decide +kernel
theorem dX9_waitingAt_179 : decode cX9_waitingAt 179 = .ok (.bipush 10, 2) := by decide +kernel
theorem dX9_waitingAt_181 : decode cX9_waitingAt 181 = .ok (.irem, 1) := by decide +kernel
theorem dX9_waitingAt_182 : decode cX9_waitingAt 182 = .ok (.iadd, 1) := by decide +kernel
theorem dX9_waitingAt_183 : decode cX9_waitingAt 183 = .ok (.iaload, 1) := by decide +kernel
theorem dX9_waitingAt_184 : decode cX9_waitingAt 184 = .ok (.istore_n 3, 1) := by decide +kernel
theorem dX9_waitingAt_185 : decode cX9_waitingAt 185 = .ok (.iinc 5 1, 3) := by decide +kernel
theorem dX9_waitingAt_188 : decode cX9_waitingAt 188 = .ok (.goto (-180), 3) := by decide +kernel
theorem dX9_waitingAt_191 : decode cX9_waitingAt 191 = .ok (.iload 4, 2) := by decide +kernel
theorem dX9_waitingAt_193 : decode cX9_waitingAt 193 = .ok (.ireturn, 1) := by decide +kernel
theorem dX9_gives_0 : decode cX9_gives 0 = .ok (.aload_n 0, 1) := by decide +kernel
theorem dX9_gives_1 : decode cX9_gives 1 = .ok (.iload_n 1, 1) := by decide +kernel
theorem dX9_gives_2 : decode cX9_gives 2 = .ok (.iconst 0, 1) := by decide +kernel
theorem dX9_gives_3 : decode cX9_gives 3 = .ok (.invokevirtual 186, 3) := by decide +kernel
theorem dX9_gives_6 : decode cX9_gives 6 = .ok (.istore_n 2, 1) := by decide +kernel
theorem dX9_gives_7 : decode cX9_gives 7 = .ok (.aload_n 0, 1) := by decide +kernel
theorem dX9_gives_8 : decode cX9_gives 8 = .ok (.getfield 89, 3) := by decide +kernel
theorem dX9_gives_11 : decode cX9_gives 11 = .ok (.iload_n 1, 1) := by decide +kernel
theorem dX9_gives_12 : decode cX9_gives 12 = .ok (.iaload, 1) := by decide +kernel
theorem dX9_gives_13 : decode cX9_gives 13 = .ok (.ifCond .le 46, 3) := by decide +kernel
theorem dX9_gives_16 : decode cX9_gives 16 = .ok (.iload_n 2, 1) := by decide +kernel
theorem dX9_gives_17 : decode cX9_gives 17 = .ok (.iconst (-1), 1) := by decide +kernel
theorem dX9_gives_18 : decode cX9_gives 18 = .ok (.if_icmp .eq 41, 3) := by decide +kernel
theorem dX9_gives_21 : decode cX9_gives 21 = .ok (.aload_n 0, 1) := by decide +kernel
theorem dX9_gives_22 : decode cX9_gives 22 = .ok (.getfield 89, 3) := by decide +kernel
theorem dX9_gives_25 : decode cX9_gives 25 = .ok (.iload_n 1, 1) := by decide +kernel
theorem dX9_gives_26 : decode cX9_gives 26 = .ok (.dup2, 1) := by decide +kernel
theorem dX9_gives_27 : decode cX9_gives 27 = .ok (.iaload, 1) := by decide +kernel
theorem dX9_gives_28 : decode cX9_gives 28 = .ok (.iconst 1, 1) := by decide +kernel
theorem dX9_gives_29 : decode cX9_gives 29 = .ok (.isub, 1) := by decide +kernel
theorem dX9_gives_30 : decode cX9_gives 30 = .ok (.iastore, 1) := by decide +kernel
theorem dX9_gives_31 : decode cX9_gives 31 = .ok (.aload_n 0, 1) := by decide +kernel
theorem dX9_gives_32 : decode cX9_gives 32 = .ok (.getfield 83, 3) := by decide +kernel
theorem dX9_gives_35 : decode cX9_gives 35 = .ok (.iconst 5, 1) := by decide +kernel
theorem dX9_gives_36 : decode cX9_gives 36 = .ok (.iload_n 2, 1) := by decide +kernel
theorem dX9_gives_37 : decode cX9_gives 37 = .ok (.bipush 10, 2) := by decide +kernel
theorem dX9_gives_39 : decode cX9_gives 39 = .ok (.idiv, 1) := by decide +kernel
theorem dX9_gives_40 : decode cX9_gives 40 = .ok (.imul, 1) := by decide +kernel
theorem dX9_gives_41 : decode cX9_gives 41 = .ok (.iload_n 2, 1) := by decide +kernel
theorem dX9_gives_42 : decode cX9_gives 42 = .ok (.bipush 10, 2) := by decide +kernel
theorem dX9_gives_44 : decode cX9_gives 44 = .ok (.irem, 1) := by decide +kernel
theorem dX9_gives_45 : decode cX9_gives 45 = .ok (.iadd, 1) := by decide +kernel
theorem dX9_gives_46 : decode cX9_gives 46 = .ok (.bipush 111, 2) := by decide +kernel
theorem dX9_gives_48 : decode cX9_gives 48 = .ok (.castore, 1) := by decide +kernel
theorem dX9_gives_49 : decode cX9_gives 49 = .ok (.aload_n 0, 1) := by decide +kernel
theorem dX9_gives_50 : decode cX9_gives 50 = .ok (.iload_n 1, 1) := by decide +kernel
theorem dX9_gives_51 : decode cX9_gives 51 = .ok (.iconst 0, 1) := by decide +kernel
theorem dX9_gives_52 : decode cX9_gives 52 = .ok (.invokevirtual 186, 3) := by decide +kernel
theorem dX9_gives_55 : decode cX9_gives 55 = .ok (.istore_n 2, 1) := by decide +kernel
theorem dX9_gives_56 : decode cX9_gives 56 = .ok (.goto (-49), 3) := by decide +kernel
theorem dX9_gives_59 : decode cX9_gives 59 = .ok (.return_, 1) := by decide +kernel
theorem dX9_team_0 : decode cX9_team 0 = .ok (.aload_n 0, 1) := by decide +kernel
theorem dX9_team_1 : decode cX9_team 1 = .ok (.aload_n 0, 1) := by decide +kernel
theorem dX9_team_2 : decode cX9_team 2 = .ok (.getfield 127, 3) := by decide +kernel
theorem dX9_team_5 : decode cX9_team 5 = .ok (.bipush 8, 2) := by decide +kernel
theorem dX9_team_7 : decode cX9_team 7 = .ok (.if_icmp .ne 7, 3) := by decide +kernel
theorem dX9_team_10 : decode cX9_team 10 = .ok (.iconst 1, 1) := by decide +kernel
theorem dX9_team_11 : decode cX9_team 11 = .ok (.goto 4, 3) := by decide +kernel
theorem dX9_team_14 : decode cX9_team 14 = .ok (.iconst 0, 1) := by decide +kernel
theorem dX9_team_15 : decode cX9_team 15 = .ok (.invokevirtual 114, 3) := by decide +kernel
theorem dX9_team_18 : decode cX9_team 18 = .ok (.ifCond .eq 5, 3) := by decide +kernel
theorem dX9_team_21 : decode cX9_team 21 = .ok (.iconst 0, 1) := by decide +kernel
theorem dX9_team_22 : decode cX9_team 22 = .ok (.ireturn, 1) := by decide +kernel
theorem dX9_team_23 : decode cX9_team 23 = .ok (.iconst 0, 1) := by decide +kernel
theorem dX9_team_24 : decode cX9_team 24 = .ok (.istore_n 1, 1) := by decide +kernel
theorem dX9_team_25 : decode cX9_team 25 = .ok (.iload_n 1, 1) := by decide +kernel
theorem dX9_team_26 : decode cX9_team 26 = .ok (.iconst 5, 1) := by decide +kernel
theorem dX9_team_27 : decode cX9_team 27 = .ok (.if_icmp .ge 24, 3) := by decide +kernel
theorem dX9_team_30 : decode cX9_team 30 = .ok (.aload_n 0, 1) := by decide +kernel
theorem dX9_team_31 : decode cX9_team 31 = .ok (.getfield 83, 3) := by decide +kernel
theorem dX9_team_34 : decode cX9_team 34 = .ok (.iconst 5, 1) := by decide +kernel
theorem dX9_team_35 : decode cX9_team 35 = .ok (.aload_n 0, 1) := by decide +kernel
theorem dX9_team_36 : decode cX9_team 36 = .ok (.getfield 127, 3) := by decide +kernel
theorem dX9_team_39 : decode cX9_team 39 = .ok (.imul, 1) := by decide +kernel
theorem dX9_team_40 : decode cX9_team 40 = .ok (.iload_n 1, 1) := by decide +kernel
theorem dX9_team_41 : decode cX9_team 41 = .ok (.iadd, 1) := by decide +kernel
theorem dX9_team_42 : decode cX9_team 42 = .ok (.bipush 45, 2) := by decide +kernel
theorem dX9_team_44 : decode cX9_team 44 = .ok (.castore, 1) := by decide +kernel
theorem dX9_team_45 : decode cX9_team 45 = .ok (.iinc 1 1, 3) := by decide +kernel
theorem dX9_team_48 : decode cX9_team 48 = .ok (.goto (-23), 3) := by decide +kernel
theorem dX9_team_51 : decode cX9_team 51 = .ok (.aload_n 0, 1) := by decide +kernel
theorem dX9_team_52 : decode cX9_team 52 = .ok (.dup, 1) := by decide +kernel
theorem dX9_team_53 : decode cX9_team 53 = .ok (.getfield 127, 3) := by decide +kernel
theorem dX9_team_56 : decode cX9_team 56 = .ok (.iconst 1, 1) := by decide +kernel
theorem dX9_team_57 : decode cX9_team 57 = .ok (.iadd, 1) := by decide +kernel
theorem dX9_team_58 : decode cX9_team 58 = .ok (.putfield 127, 3) := by decide +kernel
theorem dX9_team_61 : decode cX9_team 61 = .ok (.aload_n 0, 1) := by decide +kernel
theorem dX9_team_62 : decode cX9_team 62 = .ok (.getfield 127, 3) := by decide +kernel
theorem dX9_team_65 : decode cX9_team 65 = .ok (.iconst 1, 1) := by decide +kernel
theorem dX9_team_66 : decode cX9_team 66 = .ok (.isub, 1) := by decide +kernel
theorem dX9_team_67 : decode cX9_team 67 = .ok (.ireturn, 1) := by decide +kernel
theorem dX9_submit_0 : decode cX9_submit 0 = .ok (.iload_n 3, 1) := by decide +kernel
theorem dX9_submit_1 : decode cX9_submit 1 = .ok (.iconst 0, 1) := by decide +kernel
theorem dX9_submit_2 : decode cX9_submit 2 = .ok (.sipush 999, 3) := by decide +kernel
theorem dX9_submit_5 : decode cX9_submit 5 = .ok (.invokestatic 103, 3) := by decide +kernel
theorem dX9_submit_8 : decode cX9_submit 8 = .ok (.ifCond .eq 29, 3) := by decide +kernel
theorem dX9_submit_11 : decode cX9_submit 11 = .ok (.aload_n 0, 1) := by decide +kernel
theorem dX9_submit_12 : decode cX9_submit 12 = .ok (.getfield 130, 3) := by decide +kernel
theorem dX9_submit_15 : decode cX9_submit 15 = .ok (.ifCond .eq 18, 3) := by decide +kernel
theorem dX9_submit_18 : decode cX9_submit 18 = .ok (.iload_n 3, 1) := by decide +kernel
theorem dX9_submit_19 : decode cX9_submit 19 = .ok (.aload_n 0, 1) := by decide +kernel
theorem dX9_submit_20 : decode cX9_submit 20 = .ok (.getfield 53, 3) := by decide +kernel
theorem dX9_submit_23 : decode cX9_submit 23 = .ok (.aload_n 0, 1) := by decide +kernel
theorem dX9_submit_24 : decode cX9_submit 24 = .ok (.getfield 130, 3) := by decide +kernel
theorem dX9_submit_27 : decode cX9_submit 27 = .ok (.iconst 1, 1) := by decide +kernel
theorem dX9_submit_28 : decode cX9_submit 28 = .ok (.isub, 1) := by decide +kernel
theorem dX9_submit_29 : decode cX9_submit 29 = .ok (.iaload, 1) := by decide +kernel
theorem dX9_submit_30 : decode cX9_submit 30 = .ok (.if_icmp .lt 7, 3) := by decide +kernel
theorem dX9_submit_33 : decode cX9_submit 33 = .ok (.iconst 1, 1) := by decide +kernel
theorem dX9_submit_34 : decode cX9_submit 34 = .ok (.goto 4, 3) := by decide +kernel
theorem dX9_submit_37 : decode cX9_submit 37 = .ok (.iconst 0, 1) := by decide +kernel
theorem dX9_submit_38 : decode cX9_submit 38 = .ok (.istore 4, 2) := by decide +kernel
theorem dX9_submit_40 : decode cX9_submit 40 = .ok (.aload_n 0, 1) := by decide +kernel
theorem dX9_submit_41 : decode cX9_submit 41 = .ok (.aload_n 0, 1) := by decide +kernel
theorem dX9_submit_42 : decode cX9_submit 42 = .ok (.iload_n 1, 1) := by decide +kernel
theorem dX9_submit_43 : decode cX9_submit 43 = .ok (.invokevirtual 190, 3) := by decide +kernel
theorem dX9_submit_46 : decode cX9_submit 46 = .ok (.ifCond .ne 11, 3) := by decide +kernel
theorem dX9_submit_49 : decode cX9_submit 49 = .ok (.aload_n 0, 1) := by decide +kernel
theorem dX9_submit_50 : decode cX9_submit 50 = .ok (.iload_n 2, 1) := by decide +kernel
theorem dX9_submit_51 : decode cX9_submit 51 = .ok (.invokevirtual 133, 3) := by decide +kernel
theorem dX9_submit_54 : decode cX9_submit 54 = .ok (.ifCond .eq 7, 3) := by decide +kernel
theorem dX9_submit_57 : decode cX9_submit 57 = .ok (.iconst 1, 1) := by decide +kernel
theorem dX9_submit_58 : decode cX9_submit 58 = .ok (.goto 26, 3) := by decide +kernel
theorem dX9_submit_61 : decode cX9_submit 61 = .ok (.iload 4, 2) := by decide +kernel
theorem dX9_submit_63 : decode cX9_submit 63 = .ok (.ifCond .ne 7, 3) := by decide +kernel
theorem dX9_submit_66 : decode cX9_submit 66 = .ok (.iconst 2, 1) := by decide +kernel
theorem dX9_submit_67 : decode cX9_submit 67 = .ok (.goto 17, 3) := by decide +kernel
theorem dX9_submit_70 : decode cX9_submit 70 = .ok (.aload_n 0, 1) := by decide +kernel
theorem dX9_submit_71 : decode cX9_submit 71 = .ok (.getfield 130, 3) := by decide +kernel
theorem dX9_submit_74 : decode cX9_submit 74 = .ok (.bipush 40, 2) := by decide +kernel
theorem dX9_submit_76 : decode cX9_submit 76 = .ok (.if_icmp .ne 7, 3) := by decide +kernel
theorem dX9_submit_79 : decode cX9_submit 79 = .ok (.iconst 3, 1) := by decide +kernel
theorem dX9_submit_80 : decode cX9_submit 80 = .ok (.goto 4, 3) := by decide +kernel
theorem dX9_submit_83 : decode cX9_submit 83 = .ok (.iconst 0, 1) := by decide +kernel
theorem dX9_submit_84 : decode cX9_submit 84 = .ok (.invokevirtual 114, 3) := by decide +kernel
theorem dX9_submit_87 : decode cX9_submit 87 = .ok (.ifCond .eq 5, 3) := by decide +kernel
theorem dX9_submit_90 : decode cX9_submit 90 = .ok (.iconst 0, 1) := by decide +kernel
theorem dX9_submit_91 : decode cX9_submit 91 = .ok (.ireturn, 1) := by decide +kernel
theorem dX9_submit_92 : decode cX9_submit 92 = .ok (.aload_n 0, 1) := by decide +kernel
theorem dX9_submit_93 : decode cX9_submit 93 = .ok (.getfield 130, 3) := by decide +kernel
theorem dX9_submit_96 : decode cX9_submit 96 = .ok (.istore 5, 2) := by decide +kernel
theorem dX9_submit_98 : decode cX9_submit 98 = .ok (.aload_n 0, 1) := by decide +kernel
theorem dX9_submit_99 : decode cX9_submit 99 = .ok (.getfield 47, 3) := by decide +kernel
theorem dX9_submit_102 : decode cX9_submit 102 = .ok (.iload 5, 2) := by decide +kernel
theorem dX9_submit_104 : decode cX9_submit 104 = .ok (.iload_n 1, 1) := by decide +kernel
theorem dX9_submit_105 : decode cX9_submit 105 = .ok (.iastore, 1) := by decide +kernel
theorem dX9_submit_106 : decode cX9_submit 106 = .ok (.aload_n 0, 1) := by decide +kernel
theorem dX9_submit_107 : decode cX9_submit 107 = .ok (.getfield 50, 3) := by decide +kernel
theorem dX9_submit_110 : decode cX9_submit 110 = .ok (.iload 5, 2) := by decide +kernel
theorem dX9_submit_112 : decode cX9_submit 112 = .ok (.iload_n 2, 1) := by decide +kernel
theorem dX9_submit_113 : decode cX9_submit 113 = .ok (.iastore, 1) := by decide +kernel
theorem dX9_submit_114 : decode cX9_submit 114 = .ok (.aload_n 0, 1) := by decide +kernel
theorem dX9_submit_115 : decode cX9_submit 115 = .ok (.getfield 53, 3) := by decide +kernel
theorem dX9_submit_118 : decode cX9_submit 118 = .ok (.iload 5, 2) := by decide +kernel
theorem dX9_submit_120 : decode cX9_submit 120 = .ok (.iload_n 3, 1) := by decide +kernel
theorem dX9_submit_121 : decode cX9_submit 121 = .ok (.iastore, 1) := by decide +kernel
theorem dX9_submit_122 : decode cX9_submit 122 = .ok (.aload_n 0, 1) := by decide +kernel
theorem dX9_submit_123 : decode cX9_submit 123 = .ok (.getfield 56, 3) := by decide +kernel
theorem dX9_submit_126 : decode cX9_submit 126 = .ok (.iload 5, 2) := by decide +kernel
theorem dX9_submit_128 : decode cX9_submit 128 = .ok (.aload_n 0, 1) := by decide +kernel
theorem dX9_submit_129 : decode cX9_submit 129 = .ok (.getfield 111, 3) := by decide +kernel
theorem dX9_submit_132 : decode cX9_submit 132 = .ok (.iastore, 1) := by decide +kernel
theorem dX9_submit_133 : decode cX9_submit 133 = .ok (.iconst 0, 1) := by decide +kernel
theorem dX9_submit_134 : decode cX9_submit 134 = .ok (.istore 6, 2) := by decide +kernel
theorem dX9_submit_136 : decode cX9_submit 136 = .ok (.iload 6, 2) := by decide +kernel
theorem dX9_submit_138 : decode cX9_submit 138 = .ok (.aload_n 0, 1) := by decide +kernel
theorem dX9_submit_139 : decode cX9_submit 139 = .ok (.getfield 111, 3) := by decide +kernel
theorem dX9_submit_142 : decode cX9_submit 142 = .ok (.if_icmp .ge 69, 3) := by decide +kernel
theorem dX9_submit_145 : decode cX9_submit 145 = .ok (.aload_n 0, 1) := by decide +kernel
theorem dX9_submit_146 : decode cX9_submit 146 = .ok (.getfield 59, 3) := by decide +kernel
theorem dX9_submit_149 : decode cX9_submit 149 = .ok (.bipush 20, 2) := by decide +kernel
theorem dX9_submit_151 : decode cX9_submit 151 = .ok (.iload 5, 2) := by decide +kernel
theorem dX9_submit_153 : decode cX9_submit 153 = .ok (.imul, 1) := by decide +kernel
theorem dX9_submit_154 : decode cX9_submit 154 = .ok (.iload 6, 2) := by decide +kernel
theorem dX9_submit_156 : decode cX9_submit 156 = .ok (.iadd, 1) := by decide +kernel
theorem dX9_submit_157 : decode cX9_submit 157 = .ok (.aload_n 0, 1) := by decide +kernel
theorem dX9_submit_158 : decode cX9_submit 158 = .ok (.getfield 7, 3) := by decide +kernel
theorem dX9_submit_161 : decode cX9_submit 161 = .ok (.iload 6, 2) := by decide +kernel
theorem dX9_submit_163 : decode cX9_submit 163 = .ok (.caload, 1) := by decide +kernel
theorem dX9_submit_164 : decode cX9_submit 164 = .ok (.castore, 1) := by decide +kernel
theorem dX9_submit_165 : decode cX9_submit 165 = .ok (.aload_n 0, 1) := by decide +kernel
theorem dX9_submit_166 : decode cX9_submit 166 = .ok (.getfield 62, 3) := by decide +kernel
theorem dX9_submit_169 : decode cX9_submit 169 = .ok (.bipush 20, 2) := by decide +kernel
theorem dX9_submit_171 : decode cX9_submit 171 = .ok (.iload 5, 2) := by decide +kernel
theorem dX9_submit_173 : decode cX9_submit 173 = .ok (.imul, 1) := by decide +kernel
theorem dX9_submit_174 : decode cX9_submit 174 = .ok (.iload 6, 2) := by decide +kernel
theorem dX9_submit_176 : decode cX9_submit 176 = .ok (.iadd, 1) := by decide +kernel
theorem dX9_submit_177 : decode cX9_submit 177 = .ok (.aload_n 0, 1) := by decide +kernel
theorem dX9_submit_178 : decode cX9_submit 178 = .ok (.getfield 13, 3) := by decide +kernel
theorem dX9_submit_181 : decode cX9_submit 181 = .ok (.iload 6, 2) := by decide +kernel
theorem dX9_submit_183 : decode cX9_submit 183 = .ok (.iaload, 1) := by decide +kernel
theorem dX9_submit_184 : decode cX9_submit 184 = .ok (.iastore, 1) := by decide +kernel
theorem dX9_submit_185 : decode cX9_submit 185 = .ok (.aload_n 0, 1) := by decide +kernel
theorem dX9_submit_186 : decode cX9_submit 186 = .ok (.getfield 65, 3) := by decide +kernel
theorem dX9_submit_189 : decode cX9_submit 189 = .ok (.bipush 20, 2) := by decide +kernel
theorem dX9_submit_191 : decode cX9_submit 191 = .ok (.iload 5, 2) := by decide +kernel
theorem dX9_submit_193 : decode cX9_submit 193 = .ok (.imul, 1) := by decide +kernel
theorem dX9_submit_194 : decode cX9_submit 194 = .ok (.iload 6, 2) := by decide +kernel
theorem dX9_submit_196 : decode cX9_submit 196 = .ok (.iadd, 1) := by decide +kernel
theorem dX9_submit_197 : decode cX9_submit 197 = .ok (.aload_n 0, 1) := by decide +kernel
theorem dX9_submit_198 : decode cX9_submit 198 = .ok (.getfield 17, 3) := by decide +kernel
theorem dX9_submit_201 : decode cX9_submit 201 = .ok (.iload 6, 2) := by decide +kernel
theorem dX9_submit_203 : decode cX9_submit 203 = .ok (.iaload, 1) := by decide +kernel
theorem dX9_submit_204 : decode cX9_submit 204 = .ok (.iastore, 1) := by decide +kernel
theorem dX9_submit_205 : decode cX9_submit 205 = .ok (.iinc 6 1, 3) := by decide +kernel
theorem dX9_submit_208 : decode cX9_submit 208 = .ok (.goto (-72), 3) := by decide +kernel
theorem dX9_submit_211 : decode cX9_submit 211 = .ok (.aload_n 0, 1) := by decide +kernel
theorem dX9_submit_212 : decode cX9_submit 212 = .ok (.dup, 1) := by decide +kernel
theorem dX9_submit_213 : decode cX9_submit 213 = .ok (.getfield 130, 3) := by decide +kernel
theorem dX9_submit_216 : decode cX9_submit 216 = .ok (.iconst 1, 1) := by decide +kernel
theorem dX9_submit_217 : decode cX9_submit 217 = .ok (.iadd, 1) := by decide +kernel
theorem dX9_submit_218 : decode cX9_submit 218 = .ok (.putfield 130, 3) := by decide +kernel
theorem dX9_submit_221 : decode cX9_submit 221 = .ok (.iconst 0, 1) := by decide +kernel
theorem dX9_submit_222 : decode cX9_submit 222 = .ok (.istore 6, 2) := by decide +kernel
theorem dX9_submit_224 : decode cX9_submit 224 = .ok (.iload 6, 2) := by decide +kernel
theorem dX9_submit_226 : decode cX9_submit 226 = .ok (.aload_n 0, 1) := by decide +kernel
theorem dX9_submit_227 : decode cX9_submit 227 = .ok (.getfield 32, 3) := by decide +kernel
theorem dX9_submit_230 : decode cX9_submit 230 = .ok (.iload_n 2, 1) := by decide +kernel
theorem dX9_submit_231 : decode cX9_submit 231 = .ok (.iaload, 1) := by decide +kernel
theorem dX9_submit_232 : decode cX9_submit 232 = .ok (.if_icmp .ge 17, 3) := by decide +kernel
theorem dX9_submit_235 : decode cX9_submit 235 = .ok (.aload_n 0, 1) := by decide +kernel
theorem dX9_submit_236 : decode cX9_submit 236 = .ok (.iload 5, 2) := by decide +kernel
theorem dX9_submit_238 : decode cX9_submit 238 = .ok (.iload 6, 2) := by decide +kernel
theorem dX9_submit_240 : decode cX9_submit 240 = .ok (.invokevirtual 164, 3) := by decide +kernel
theorem dX9_submit_243 : decode cX9_submit 243 = .ok (.iinc 6 1, 3) := by decide +kernel
theorem dX9_submit_246 : decode cX9_submit 246 = .ok (.goto (-22), 3) := by decide +kernel
theorem dX9_submit_249 : decode cX9_submit 249 = .ok (.aload_n 0, 1) := by decide +kernel
theorem dX9_submit_250 : decode cX9_submit 250 = .ok (.iload_n 1, 1) := by decide +kernel
theorem dX9_submit_251 : decode cX9_submit 251 = .ok (.iload_n 2, 1) := by decide +kernel
theorem dX9_submit_252 : decode cX9_submit 252 = .ok (.invokevirtual 180, 3) := by decide +kernel
theorem dX9_submit_255 : decode cX9_submit 255 = .ok (.iload 5, 2) := by decide +kernel
theorem dX9_submit_257 : decode cX9_submit 257 = .ok (.ireturn, 1) := by decide +kernel
theorem dX9_verdict_0 : decode cX9_verdict 0 = .ok (.aload_n 0, 1) := by decide +kernel
theorem dX9_verdict_1 : decode cX9_verdict 1 = .ok (.aload_n 0, 1) := by decide +kernel
theorem dX9_verdict_2 : decode cX9_verdict 2 = .ok (.iload_n 1, 1) := by decide +kernel
theorem dX9_verdict_3 : decode cX9_verdict 3 = .ok (.invokevirtual 193, 3) := by decide +kernel
theorem dX9_verdict_6 : decode cX9_verdict 6 = .ok (.ifCond .eq 7, 3) := by decide +kernel
theorem dX9_verdict_9 : decode cX9_verdict 9 = .ok (.iconst 1, 1) := by decide +kernel
theorem dX9_verdict_10 : decode cX9_verdict 10 = .ok (.goto 4, 3) := by decide +kernel
theorem dX9_verdict_13 : decode cX9_verdict 13 = .ok (.iconst 0, 1) := by decide +kernel
theorem dX9_verdict_14 : decode cX9_verdict 14 = .ok (.invokevirtual 114, 3) := by decide +kernel
theorem dX9_verdict_17 : decode cX9_verdict 17 = .ok (.ifCond .eq 8, 3) := by decide +kernel
theorem dX9_verdict_20 : decode cX9_verdict 20 = .ok (.bipush 32, 2) := by decide +kernel
theorem dX9_verdict_22 : decode cX9_verdict 22 = .ok (.goto 8, 3) := by decide +kernel
theorem dX9_verdict_25 : decode cX9_verdict 25 = .ok (.aload_n 0, 1) := by decide +kernel
theorem dX9_verdict_26 : decode cX9_verdict 26 = .ok (.iload_n 1, 1) := by decide +kernel
theorem dX9_verdict_27 : decode cX9_verdict 27 = .ok (.invokevirtual 160, 3) := by decide +kernel
theorem dX9_verdict_30 : decode cX9_verdict 30 = .ok (.ireturn, 1) := by decide +kernel
theorem dX9_failed_0 : decode cX9_failed 0 = .ok (.aload_n 0, 1) := by decide +kernel
theorem dX9_failed_1 : decode cX9_failed 1 = .ok (.aload_n 0, 1) := by decide +kernel
theorem dX9_failed_2 : decode cX9_failed 2 = .ok (.iload_n 1, 1) := by decide +kernel
theorem dX9_failed_3 : decode cX9_failed 3 = .ok (.invokevirtual 193, 3) := by decide +kernel
theorem dX9_failed_6 : decode cX9_failed 6 = .ok (.ifCond .eq 7, 3) := by decide +kernel
theorem dX9_failed_9 : decode cX9_failed 9 = .ok (.iconst 1, 1) := by decide +kernel
theorem dX9_failed_10 : decode cX9_failed 10 = .ok (.goto 4, 3) := by decide +kernel
theorem dX9_failed_13 : decode cX9_failed 13 = .ok (.iconst 0, 1) := by decide +kernel
theorem dX9_failed_14 : decode cX9_failed 14 = .ok (.invokevirtual 114, 3) := by decide +kernel
theorem dX9_failed_17 : decode cX9_failed 17 = .ok (.ifCond .eq 7, 3) := by decide +kernel
theorem dX9_failed_20 : decode cX9_failed 20 = .ok (.iconst 0, 1) := by decide +kernel
theorem dX9_failed_21 : decode cX9_failed 21 = .ok (.goto 8, 3) := by decide +kernel
theorem dX9_failed_24 : decode cX9_failed 24 = .ok (.aload_n 0, 1) := by decide +kernel
theorem dX9_failed_25 : decode cX9_failed 25 = .ok (.iload_n 1, 1) := by decide +kernel
theorem dX9_failed_26 : decode cX9_failed 26 = .ok (.invokevirtual 156, 3) := by decide +kernel
theorem dX9_failed_29 : decode cX9_failed 29 = .ok (.ireturn, 1) := by decide +kernel
theorem dX9_isNoTest_0 : decode cX9_isNoTest 0 = .ok (.aload_n 0, 1) := by decide +kernel
theorem dX9_isNoTest_1 : decode cX9_isNoTest 1 = .ok (.iload_n 1, 1) := by decide +kernel
theorem dX9_isNoTest_2 : decode cX9_isNoTest 2 = .ok (.invokevirtual 193, 3) := by decide +kernel
theorem dX9_isNoTest_5 : decode cX9_isNoTest 5 = .ok (.ifCond .ne 24, 3) := by decide +kernel
theorem dX9_isNoTest_8 : decode cX9_isNoTest 8 = .ok (.iload_n 2, 1) := by decide +kernel
theorem dX9_isNoTest_9 : decode cX9_isNoTest 9 = .ok (.iconst 0, 1) := by decide +kernel
theorem dX9_isNoTest_10 : decode cX9_isNoTest 10 = .ok (.aload_n 0, 1) := by decide +kernel
theorem dX9_isNoTest_11 : decode cX9_isNoTest 11 = .ok (.getfield 32, 3) := by decide +kernel
theorem dX9_isNoTest_14 : decode cX9_isNoTest 14 = .ok (.aload_n 0, 1) := by decide +kernel
theorem dX9_isNoTest_15 : decode cX9_isNoTest 15 = .ok (.getfield 50, 3) := by decide +kernel
theorem dX9_isNoTest_18 : decode cX9_isNoTest 18 = .ok (.iload_n 1, 1) := by decide +kernel
theorem dX9_isNoTest_19 : decode cX9_isNoTest 19 = .ok (.iaload, 1) := by decide +kernel
theorem dX9_isNoTest_20 : decode cX9_isNoTest 20 = .ok (.iaload, 1) := by decide +kernel
theorem dX9_isNoTest_21 : decode cX9_isNoTest 21 = .ok (.iconst 1, 1) := by decide +kernel
theorem dX9_isNoTest_22 : decode cX9_isNoTest 22 = .ok (.isub, 1) := by decide +kernel
theorem dX9_isNoTest_23 : decode cX9_isNoTest 23 = .ok (.invokestatic 103, 3) := by decide +kernel
theorem dX9_isNoTest_26 : decode cX9_isNoTest 26 = .ok (.ifCond .ne 7, 3) := by decide +kernel
theorem dX9_isNoTest_29 : decode cX9_isNoTest 29 = .ok (.iconst 1, 1) := by decide +kernel
theorem dX9_isNoTest_30 : decode cX9_isNoTest 30 = .ok (.goto 4, 3) := by decide +kernel
theorem dX9_isNoTest_33 : decode cX9_isNoTest 33 = .ok (.iconst 0, 1) := by decide +kernel
theorem dX9_isNoTest_34 : decode cX9_isNoTest 34 = .ok (.ireturn, 1) := by decide +kernel
theorem dX9_ended_0 : decode cX9_ended 0 = .ok (.aload_n 0, 1) := by decide +kernel
theorem dX9_ended_1 : decode cX9_ended 1 = .ok (.aload_n 0, 1) := by decide +kernel
theorem dX9_ended_2 : decode cX9_ended 2 = .ok (.iload_n 1, 1) := by decide +kernel
theorem dX9_ended_3 : decode cX9_ended 3 = .ok (.iload_n 2, 1) := by decide +kernel
theorem dX9_ended_4 : decode cX9_ended 4 = .ok (.invokevirtual 196, 3) := by decide +kernel
theorem dX9_ended_7 : decode cX9_ended 7 = .ok (.ifCond .eq 7, 3) := by decide +kernel
theorem dX9_ended_10 : decode cX9_ended 10 = .ok (.iconst 1, 1) := by decide +kernel
theorem dX9_ended_11 : decode cX9_ended 11 = .ok (.goto 4, 3) := by decide +kernel
theorem dX9_ended_14 : decode cX9_ended 14 = .ok (.iconst 0, 1) := by decide +kernel
theorem dX9_ended_15 : decode cX9_ended 15 = .ok (.invokevirtual 114, 3) := by decide +kernel
theorem dX9_ended_18 : decode cX9_ended 18 = .ok (.ifCond .eq 8, 3) := by decide +kernel
theorem dX9_ended_21 : decode cX9_ended 21 = .ok (.bipush 32, 2) := by decide +kernel
theorem dX9_ended_23 : decode cX9_ended 23 = .ok (.goto 14, 3) := by decide +kernel
theorem dX9_ended_26 : decode cX9_ended 26 = .ok (.aload_n 0, 1) := by decide +kernel
theorem dX9_ended_27 : decode cX9_ended 27 = .ok (.getfield 68, 3) := by decide +kernel
theorem dX9_ended_30 : decode cX9_ended 30 = .ok (.bipush 6, 2) := by decide +kernel
theorem dX9_ended_32 : decode cX9_ended 32 = .ok (.iload_n 1, 1) := by decide +kernel
theorem dX9_ended_33 : decode cX9_ended 33 = .ok (.imul, 1) := by decide +kernel
theorem dX9_ended_34 : decode cX9_ended 34 = .ok (.iload_n 2, 1) := by decide +kernel
theorem dX9_ended_35 : decode cX9_ended 35 = .ok (.iadd, 1) := by decide +kernel
theorem dX9_ended_36 : decode cX9_ended 36 = .ok (.caload, 1) := by decide +kernel
theorem dX9_ended_37 : decode cX9_ended 37 = .ok (.ireturn, 1) := by decide +kernel
theorem dX9_steps_0 : decode cX9_steps 0 = .ok (.aload_n 0, 1) := by decide +kernel
theorem dX9_steps_1 : decode cX9_steps 1 = .ok (.aload_n 0, 1) := by decide +kernel
theorem dX9_steps_2 : decode cX9_steps 2 = .ok (.iload_n 1, 1) := by decide +kernel
theorem dX9_steps_3 : decode cX9_steps 3 = .ok (.iload_n 2, 1) := by decide +kernel
theorem dX9_steps_4 : decode cX9_steps 4 = .ok (.invokevirtual 196, 3) := by decide +kernel
theorem dX9_steps_7 : decode cX9_steps 7 = .ok (.ifCond .eq 7, 3) := by decide +kernel
theorem dX9_steps_10 : decode cX9_steps 10 = .ok (.iconst 1, 1) := by decide +kernel
theorem dX9_steps_11 : decode cX9_steps 11 = .ok (.goto 4, 3) := by decide +kernel
theorem dX9_steps_14 : decode cX9_steps 14 = .ok (.iconst 0, 1) := by decide +kernel
theorem dX9_steps_15 : decode cX9_steps 15 = .ok (.invokevirtual 114, 3) := by decide +kernel
theorem dX9_steps_18 : decode cX9_steps 18 = .ok (.ifCond .eq 7, 3) := by decide +kernel
theorem dX9_steps_21 : decode cX9_steps 21 = .ok (.iconst 0, 1) := by decide +kernel
theorem dX9_steps_22 : decode cX9_steps 22 = .ok (.goto 14, 3) := by decide +kernel
theorem dX9_steps_25 : decode cX9_steps 25 = .ok (.aload_n 0, 1) := by decide +kernel
theorem dX9_steps_26 : decode cX9_steps 26 = .ok (.getfield 71, 3) := by decide +kernel
theorem dX9_steps_29 : decode cX9_steps 29 = .ok (.bipush 6, 2) := by decide +kernel
theorem dX9_steps_31 : decode cX9_steps 31 = .ok (.iload_n 1, 1) := by decide +kernel
theorem dX9_steps_32 : decode cX9_steps 32 = .ok (.imul, 1) := by decide +kernel
theorem dX9_steps_33 : decode cX9_steps 33 = .ok (.iload_n 2, 1) := by decide +kernel
theorem dX9_steps_34 : decode cX9_steps 34 = .ok (.iadd, 1) := by decide +kernel
theorem dX9_steps_35 : decode cX9_steps 35 = .ok (.iaload, 1) := by decide +kernel
theorem dX9_steps_36 : decode cX9_steps 36 = .ok (.ireturn, 1) := by decide +kernel
theorem dX9_outputs_0 : decode cX9_outputs 0 = .ok (.aload_n 0, 1) := by decide +kernel
theorem dX9_outputs_1 : decode cX9_outputs 1 = .ok (.aload_n 0, 1) := by decide +kernel
theorem dX9_outputs_2 : decode cX9_outputs 2 = .ok (.iload_n 1, 1) := by decide +kernel
theorem dX9_outputs_3 : decode cX9_outputs 3 = .ok (.iload_n 2, 1) := by decide +kernel
theorem dX9_outputs_4 : decode cX9_outputs 4 = .ok (.invokevirtual 196, 3) := by decide +kernel
theorem dX9_outputs_7 : decode cX9_outputs 7 = .ok (.ifCond .eq 7, 3) := by decide +kernel
theorem dX9_outputs_10 : decode cX9_outputs 10 = .ok (.iconst 1, 1) := by decide +kernel
theorem dX9_outputs_11 : decode cX9_outputs 11 = .ok (.goto 4, 3) := by decide +kernel
theorem dX9_outputs_14 : decode cX9_outputs 14 = .ok (.iconst 0, 1) := by decide +kernel
theorem dX9_outputs_15 : decode cX9_outputs 15 = .ok (.invokevirtual 114, 3) := by decide +kernel
theorem dX9_outputs_18 : decode cX9_outputs 18 = .ok (.ifCond .eq 7, 3) := by decide +kernel
theorem dX9_outputs_21 : decode cX9_outputs 21 = .ok (.iconst 0, 1) := by decide +kernel
theorem dX9_outputs_22 : decode cX9_outputs 22 = .ok (.goto 14, 3) := by decide +kernel
theorem dX9_outputs_25 : decode cX9_outputs 25 = .ok (.aload_n 0, 1) := by decide +kernel
theorem dX9_outputs_26 : decode cX9_outputs 26 = .ok (.getfield 77, 3) := by decide +kernel
theorem dX9_outputs_29 : decode cX9_outputs 29 = .ok (.bipush 6, 2) := by decide +kernel
theorem dX9_outputs_31 : decode cX9_outputs 31 = .ok (.iload_n 1, 1) := by decide +kernel
theorem dX9_outputs_32 : decode cX9_outputs 32 = .ok (.imul, 1) := by decide +kernel
theorem dX9_outputs_33 : decode cX9_outputs 33 = .ok (.iload_n 2, 1) := by decide +kernel
theorem dX9_outputs_34 : decode cX9_outputs 34 = .ok (.iadd, 1) := by decide +kernel
theorem dX9_outputs_35 : decode cX9_outputs 35 = .ok (.iaload, 1) := by decide +kernel
theorem dX9_outputs_36 : decode cX9_outputs 36 = .ok (.ireturn, 1) := by decide +kernel
theorem dX9_output_0 : decode cX9_output 0 = .ok (.aload_n 0, 1) := by decide +kernel
theorem dX9_output_1 : decode cX9_output 1 = .ok (.aload_n 0, 1) := by decide +kernel
theorem dX9_output_2 : decode cX9_output 2 = .ok (.iload_n 1, 1) := by decide +kernel
theorem dX9_output_3 : decode cX9_output 3 = .ok (.iload_n 2, 1) := by decide +kernel
theorem dX9_output_4 : decode cX9_output 4 = .ok (.invokevirtual 196, 3) := by decide +kernel
theorem dX9_output_7 : decode cX9_output 7 = .ok (.ifCond .eq 7, 3) := by decide +kernel
theorem dX9_output_10 : decode cX9_output 10 = .ok (.iconst 1, 1) := by decide +kernel
theorem dX9_output_11 : decode cX9_output 11 = .ok (.goto 29, 3) := by decide +kernel
theorem dX9_output_14 : decode cX9_output 14 = .ok (.iload_n 3, 1) := by decide +kernel
theorem dX9_output_15 : decode cX9_output 15 = .ok (.iconst 0, 1) := by decide +kernel
theorem dX9_output_16 : decode cX9_output 16 = .ok (.aload_n 0, 1) := by decide +kernel
theorem dX9_output_17 : decode cX9_output 17 = .ok (.getfield 77, 3) := by decide +kernel
theorem dX9_output_20 : decode cX9_output 20 = .ok (.bipush 6, 2) := by decide +kernel
theorem dX9_output_22 : decode cX9_output 22 = .ok (.iload_n 1, 1) := by decide +kernel
theorem dX9_output_23 : decode cX9_output 23 = .ok (.imul, 1) := by decide +kernel
theorem dX9_output_24 : decode cX9_output 24 = .ok (.iload_n 2, 1) := by decide +kernel
theorem dX9_output_25 : decode cX9_output 25 = .ok (.iadd, 1) := by decide +kernel
theorem dX9_output_26 : decode cX9_output 26 = .ok (.iaload, 1) := by decide +kernel
theorem dX9_output_27 : decode cX9_output 27 = .ok (.iconst 1, 1) := by decide +kernel
theorem dX9_output_28 : decode cX9_output 28 = .ok (.isub, 1) := by decide +kernel
theorem dX9_output_29 : decode cX9_output 29 = .ok (.invokestatic 103, 3) := by decide +kernel
theorem dX9_output_32 : decode cX9_output 32 = .ok (.ifCond .ne 7, 3) := by decide +kernel
theorem dX9_output_35 : decode cX9_output 35 = .ok (.iconst 2, 1) := by decide +kernel
theorem dX9_output_36 : decode cX9_output 36 = .ok (.goto 4, 3) := by decide +kernel
theorem dX9_output_39 : decode cX9_output 39 = .ok (.iconst 0, 1) := by decide +kernel
theorem dX9_output_40 : decode cX9_output 40 = .ok (.invokevirtual 114, 3) := by decide +kernel
theorem dX9_output_43 : decode cX9_output 43 = .ok (.ifCond .eq 7, 3) := by decide +kernel
theorem dX9_output_46 : decode cX9_output 46 = .ok (.iconst 0, 1) := by decide +kernel
theorem dX9_output_47 : decode cX9_output 47 = .ok (.goto 19, 3) := by decide +kernel
theorem dX9_output_50 : decode cX9_output 50 = .ok (.aload_n 0, 1) := by decide +kernel
theorem dX9_output_51 : decode cX9_output 51 = .ok (.getfield 74, 3) := by decide +kernel
theorem dX9_output_54 : decode cX9_output 54 = .ok (.bipush 36, 2) := by decide +kernel
theorem dX9_output_56 : decode cX9_output 56 = .ok (.iload_n 1, 1) := by decide +kernel
theorem dX9_output_57 : decode cX9_output 57 = .ok (.imul, 1) := by decide +kernel
theorem dX9_output_58 : decode cX9_output 58 = .ok (.bipush 6, 2) := by decide +kernel
theorem dX9_output_60 : decode cX9_output 60 = .ok (.iload_n 2, 1) := by decide +kernel
theorem dX9_output_61 : decode cX9_output 61 = .ok (.imul, 1) := by decide +kernel
theorem dX9_output_62 : decode cX9_output 62 = .ok (.iadd, 1) := by decide +kernel
theorem dX9_output_63 : decode cX9_output 63 = .ok (.iload_n 3, 1) := by decide +kernel
theorem dX9_output_64 : decode cX9_output 64 = .ok (.iadd, 1) := by decide +kernel
theorem dX9_output_65 : decode cX9_output 65 = .ok (.iaload, 1) := by decide +kernel
theorem dX9_output_66 : decode cX9_output 66 = .ok (.ireturn, 1) := by decide +kernel
theorem dX9_areAlike_0 : decode cX9_areAlike 0 = .ok (.aload_n 0, 1) := by decide +kernel
theorem dX9_areAlike_1 : decode cX9_areAlike 1 = .ok (.getfield 77, 3) := by decide +kernel
theorem dX9_areAlike_4 : decode cX9_areAlike 4 = .ok (.bipush 6, 2) := by decide +kernel
theorem dX9_areAlike_6 : decode cX9_areAlike 6 = .ok (.iload_n 1, 1) := by decide +kernel
theorem dX9_areAlike_7 : decode cX9_areAlike 7 = .ok (.imul, 1) := by decide +kernel
theorem dX9_areAlike_8 : decode cX9_areAlike 8 = .ok (.iload_n 2, 1) := by decide +kernel
theorem dX9_areAlike_9 : decode cX9_areAlike 9 = .ok (.iadd, 1) := by decide +kernel
theorem dX9_areAlike_10 : decode cX9_areAlike 10 = .ok (.iaload, 1) := by decide +kernel
theorem dX9_areAlike_11 : decode cX9_areAlike 11 = .ok (.aload_n 0, 1) := by decide +kernel
theorem dX9_areAlike_12 : decode cX9_areAlike 12 = .ok (.getfield 77, 3) := by decide +kernel
theorem dX9_areAlike_15 : decode cX9_areAlike 15 = .ok (.bipush 6, 2) := by decide +kernel
theorem dX9_areAlike_17 : decode cX9_areAlike 17 = .ok (.iload_n 3, 1) := by decide +kernel
theorem dX9_areAlike_18 : decode cX9_areAlike 18 = .ok (.imul, 1) := by decide +kernel
theorem dX9_areAlike_19 : decode cX9_areAlike 19 = .ok (.iload 4, 2) := by decide +kernel
theorem dX9_areAlike_21 : decode cX9_areAlike 21 = .ok (.iadd, 1) := by decide +kernel
theorem dX9_areAlike_22 : decode cX9_areAlike 22 = .ok (.iaload, 1) := by decide +kernel
theorem dX9_areAlike_23 : decode cX9_areAlike 23 = .ok (.if_icmp .ne 7, 3) := by decide +kernel
theorem dX9_areAlike_26 : decode cX9_areAlike 26 = .ok (.iconst 1, 1) := by decide +kernel
theorem dX9_areAlike_27 : decode cX9_areAlike 27 = .ok (.goto 4, 3) := by decide +kernel
theorem dX9_areAlike_30 : decode cX9_areAlike 30 = .ok (.iconst 0, 1) := by decide +kernel
theorem dX9_areAlike_31 : decode cX9_areAlike 31 = .ok (.istore 5, 2) := by decide +kernel
theorem dX9_areAlike_33 : decode cX9_areAlike 33 = .ok (.iconst 0, 1) := by decide +kernel
theorem dX9_areAlike_34 : decode cX9_areAlike 34 = .ok (.istore 6, 2) := by decide +kernel
theorem dX9_areAlike_36 : decode cX9_areAlike 36 = .ok (.iload 6, 2) := by decide +kernel
theorem dX9_areAlike_38 : decode cX9_areAlike 38 = .ok (.aload_n 0, 1) := by decide +kernel
theorem dX9_areAlike_39 : decode cX9_areAlike 39 = .ok (.getfield 77, 3) := by decide +kernel
theorem dX9_areAlike_42 : decode cX9_areAlike 42 = .ok (.bipush 6, 2) := by decide +kernel
theorem dX9_areAlike_44 : decode cX9_areAlike 44 = .ok (.iload_n 1, 1) := by decide +kernel
theorem dX9_areAlike_45 : decode cX9_areAlike 45 = .ok (.imul, 1) := by decide +kernel
theorem dX9_areAlike_46 : decode cX9_areAlike 46 = .ok (.iload_n 2, 1) := by decide +kernel
theorem dX9_areAlike_47 : decode cX9_areAlike 47 = .ok (.iadd, 1) := by decide +kernel
theorem dX9_areAlike_48 : decode cX9_areAlike 48 = .ok (.iaload, 1) := by decide +kernel
theorem dX9_areAlike_49 : decode cX9_areAlike 49 = .ok (.if_icmp .ge 59, 3) := by decide +kernel
theorem dX9_areAlike_52 : decode cX9_areAlike 52 = .ok (.iload 5, 2) := by decide +kernel
theorem dX9_areAlike_54 : decode cX9_areAlike 54 = .ok (.ifCond .eq 54, 3) := by decide +kernel
theorem dX9_areAlike_57 : decode cX9_areAlike 57 = .ok (.aload_n 0, 1) := by decide +kernel
theorem dX9_areAlike_58 : decode cX9_areAlike 58 = .ok (.getfield 74, 3) := by decide +kernel
theorem dX9_areAlike_61 : decode cX9_areAlike 61 = .ok (.bipush 36, 2) := by decide +kernel
theorem dX9_areAlike_63 : decode cX9_areAlike 63 = .ok (.iload_n 1, 1) := by decide +kernel
theorem dX9_areAlike_64 : decode cX9_areAlike 64 = .ok (.imul, 1) := by decide +kernel
theorem dX9_areAlike_65 : decode cX9_areAlike 65 = .ok (.bipush 6, 2) := by decide +kernel
theorem dX9_areAlike_67 : decode cX9_areAlike 67 = .ok (.iload_n 2, 1) := by decide +kernel
theorem dX9_areAlike_68 : decode cX9_areAlike 68 = .ok (.imul, 1) := by decide +kernel
theorem dX9_areAlike_69 : decode cX9_areAlike 69 = .ok (.iadd, 1) := by decide +kernel
theorem dX9_areAlike_70 : decode cX9_areAlike 70 = .ok (.iload 6, 2) := by decide +kernel
theorem dX9_areAlike_72 : decode cX9_areAlike 72 = .ok (.iadd, 1) := by decide +kernel
theorem dX9_areAlike_73 : decode cX9_areAlike 73 = .ok (.iaload, 1) := by decide +kernel
theorem dX9_areAlike_74 : decode cX9_areAlike 74 = .ok (.aload_n 0, 1) := by decide +kernel
theorem dX9_areAlike_75 : decode cX9_areAlike 75 = .ok (.getfield 74, 3) := by decide +kernel
theorem dX9_areAlike_78 : decode cX9_areAlike 78 = .ok (.bipush 36, 2) := by decide +kernel
theorem dX9_areAlike_80 : decode cX9_areAlike 80 = .ok (.iload_n 3, 1) := by decide +kernel
theorem dX9_areAlike_81 : decode cX9_areAlike 81 = .ok (.imul, 1) := by decide +kernel
theorem dX9_areAlike_82 : decode cX9_areAlike 82 = .ok (.bipush 6, 2) := by decide +kernel
theorem dX9_areAlike_84 : decode cX9_areAlike 84 = .ok (.iload 4, 2) := by decide +kernel
theorem dX9_areAlike_86 : decode cX9_areAlike 86 = .ok (.imul, 1) := by decide +kernel
theorem dX9_areAlike_87 : decode cX9_areAlike 87 = .ok (.iadd, 1) := by decide +kernel
theorem dX9_areAlike_88 : decode cX9_areAlike 88 = .ok (.iload 6, 2) := by decide +kernel
theorem dX9_areAlike_90 : decode cX9_areAlike 90 = .ok (.iadd, 1) := by decide +kernel
theorem dX9_areAlike_91 : decode cX9_areAlike 91 = .ok (.iaload, 1) := by decide +kernel
theorem dX9_areAlike_92 : decode cX9_areAlike 92 = .ok (.if_icmp .ne 7, 3) := by decide +kernel
theorem dX9_areAlike_95 : decode cX9_areAlike 95 = .ok (.iconst 1, 1) := by decide +kernel
theorem dX9_areAlike_96 : decode cX9_areAlike 96 = .ok (.goto 4, 3) := by decide +kernel
theorem dX9_areAlike_99 : decode cX9_areAlike 99 = .ok (.iconst 0, 1) := by decide +kernel
theorem dX9_areAlike_100 : decode cX9_areAlike 100 = .ok (.istore 5, 2) := by decide +kernel
theorem dX9_areAlike_102 : decode cX9_areAlike 102 = .ok (.iinc 6 1, 3) := by decide +kernel
theorem dX9_areAlike_105 : decode cX9_areAlike 105 = .ok (.goto (-69), 3) := by decide +kernel
theorem dX9_areAlike_108 : decode cX9_areAlike 108 = .ok (.iload 5, 2) := by decide +kernel
theorem dX9_areAlike_110 : decode cX9_areAlike 110 = .ok (.ireturn, 1) := by decide +kernel
theorem dX9_kept_0 : decode cX9_kept 0 = .ok (.aload_n 0, 1) := by decide +kernel
theorem dX9_kept_1 : decode cX9_kept 1 = .ok (.iconst 0, 1) := by decide +kernel
theorem dX9_kept_2 : decode cX9_kept 2 = .ok (.putfield 100, 3) := by decide +kernel
theorem dX9_kept_5 : decode cX9_kept 5 = .ok (.iconst 0, 1) := by decide +kernel
theorem dX9_kept_6 : decode cX9_kept 6 = .ok (.istore_n 1, 1) := by decide +kernel
theorem dX9_kept_7 : decode cX9_kept 7 = .ok (.iconst 0, 1) := by decide +kernel
theorem dX9_kept_8 : decode cX9_kept 8 = .ok (.istore_n 2, 1) := by decide +kernel
theorem dX9_kept_9 : decode cX9_kept 9 = .ok (.iload_n 2, 1) := by decide +kernel
theorem dX9_kept_10 : decode cX9_kept 10 = .ok (.aload_n 0, 1) := by decide +kernel
theorem dX9_kept_11 : decode cX9_kept 11 = .ok (.getfield 130, 3) := by decide +kernel
theorem dX9_kept_14 : decode cX9_kept 14 = .ok (.if_icmp .ge 49, 3) := by decide +kernel
theorem dX9_kept_17 : decode cX9_kept 17 = .ok (.iconst 0, 1) := by decide +kernel
theorem dX9_kept_18 : decode cX9_kept 18 = .ok (.istore_n 3, 1) := by decide +kernel
theorem dX9_kept_19 : decode cX9_kept 19 = .ok (.iload_n 3, 1) := by decide +kernel
theorem dX9_kept_20 : decode cX9_kept 20 = .ok (.aload_n 0, 1) := by decide +kernel
theorem dX9_kept_21 : decode cX9_kept 21 = .ok (.getfield 32, 3) := by decide +kernel
theorem dX9_kept_24 : decode cX9_kept 24 = .ok (.aload_n 0, 1) := by decide +kernel
theorem dX9_kept_25 : decode cX9_kept 25 = .ok (.getfield 50, 3) := by decide +kernel
theorem dX9_kept_28 : decode cX9_kept 28 = .ok (.iload_n 2, 1) := by decide +kernel
theorem dX9_kept_29 : decode cX9_kept 29 = .ok (.iaload, 1) := by decide +kernel
theorem dX9_kept_30 : decode cX9_kept 30 = .ok (.iaload, 1) := by decide +kernel
theorem dX9_kept_31 : decode cX9_kept 31 = .ok (.if_icmp .ge 26, 3) := by decide +kernel
theorem dX9_kept_34 : decode cX9_kept 34 = .ok (.iload_n 1, 1) := by decide +kernel
theorem dX9_kept_35 : decode cX9_kept 35 = .ok (.aload_n 0, 1) := by decide +kernel
theorem dX9_kept_36 : decode cX9_kept 36 = .ok (.iload_n 2, 1) := by decide +kernel
theorem dX9_kept_37 : decode cX9_kept 37 = .ok (.iload_n 3, 1) := by decide +kernel
theorem dX9_kept_38 : decode cX9_kept 38 = .ok (.invokevirtual 199, 3) := by decide +kernel
theorem dX9_kept_41 : decode cX9_kept 41 = .ok (.ifCond .eq 7, 3) := by decide +kernel
theorem dX9_kept_44 : decode cX9_kept 44 = .ok (.iconst 1, 1) := by decide +kernel
theorem dX9_kept_45 : decode cX9_kept 45 = .ok (.goto 4, 3) := by decide +kernel
theorem dX9_kept_48 : decode cX9_kept 48 = .ok (.iconst 0, 1) := by decide +kernel
theorem dX9_kept_49 : decode cX9_kept 49 = .ok (.iadd, 1) := by decide +kernel
theorem dX9_kept_50 : decode cX9_kept 50 = .ok (.istore_n 1, 1) := by decide +kernel
theorem dX9_kept_51 : decode cX9_kept 51 = .ok (.iinc 3 1, 3) := by decide +kernel
theorem dX9_kept_54 : decode cX9_kept 54 = .ok (.goto (-35), 3) := by decide +kernel
theorem dX9_kept_57 : decode cX9_kept 57 = .ok (.iinc 2 1, 3) := by decide +kernel
theorem dX9_kept_60 : decode cX9_kept 60 = .ok (.goto (-51), 3) := by decide +kernel
theorem dX9_kept_63 : decode cX9_kept 63 = .ok (.iload_n 1, 1) := by decide +kernel
theorem dX9_kept_64 : decode cX9_kept 64 = .ok (.ireturn, 1) := by decide +kernel
theorem dX9_isFirst_0 : decode cX9_isFirst 0 = .ok (.iconst 0, 1) := by decide +kernel
theorem dX9_isFirst_1 : decode cX9_isFirst 1 = .ok (.istore_n 3, 1) := by decide +kernel
theorem dX9_isFirst_2 : decode cX9_isFirst 2 = .ok (.iload_n 3, 1) := by decide +kernel
theorem dX9_isFirst_3 : decode cX9_isFirst 3 = .ok (.iload_n 1, 1) := by decide +kernel
theorem dX9_isFirst_4 : decode cX9_isFirst 4 = .ok (.if_icmp .gt 61, 3) := by decide +kernel
theorem dX9_isFirst_7 : decode cX9_isFirst 7 = .ok (.iload_n 3, 1) := by decide +kernel
theorem dX9_isFirst_8 : decode cX9_isFirst 8 = .ok (.iload_n 1, 1) := by decide +kernel
theorem dX9_isFirst_9 : decode cX9_isFirst 9 = .ok (.if_icmp .ne 7, 3) := by decide +kernel
theorem dX9_isFirst_12 : decode cX9_isFirst 12 = .ok (.iload_n 2, 1) := by decide +kernel
theorem dX9_isFirst_13 : decode cX9_isFirst 13 = .ok (.goto 14, 3) := by decide +kernel
theorem dX9_isFirst_16 : decode cX9_isFirst 16 = .ok (.aload_n 0, 1) := by decide +kernel
theorem dX9_isFirst_17 : decode cX9_isFirst 17 = .ok (.getfield 32, 3) := by decide +kernel
theorem dX9_isFirst_20 : decode cX9_isFirst 20 = .ok (.aload_n 0, 1) := by decide +kernel
theorem dX9_isFirst_21 : decode cX9_isFirst 21 = .ok (.getfield 50, 3) := by decide +kernel
theorem dX9_isFirst_24 : decode cX9_isFirst 24 = .ok (.iload_n 3, 1) := by decide +kernel
theorem dX9_isFirst_25 : decode cX9_isFirst 25 = .ok (.iaload, 1) := by decide +kernel
theorem dX9_isFirst_26 : decode cX9_isFirst 26 = .ok (.iaload, 1) := by decide +kernel
theorem dX9_isFirst_27 : decode cX9_isFirst 27 = .ok (.istore 4, 2) := by decide +kernel
theorem dX9_isFirst_29 : decode cX9_isFirst 29 = .ok (.iconst 0, 1) := by decide +kernel
theorem dX9_isFirst_30 : decode cX9_isFirst 30 = .ok (.istore 5, 2) := by decide +kernel
theorem dX9_isFirst_32 : decode cX9_isFirst 32 = .ok (.iload 5, 2) := by decide +kernel
theorem dX9_isFirst_34 : decode cX9_isFirst 34 = .ok (.iload 4, 2) := by decide +kernel
theorem dX9_isFirst_36 : decode cX9_isFirst 36 = .ok (.if_icmp .ge 23, 3) := by decide +kernel
theorem dX9_isFirst_39 : decode cX9_isFirst 39 = .ok (.aload_n 0, 1) := by decide +kernel
theorem dX9_isFirst_40 : decode cX9_isFirst 40 = .ok (.iload_n 1, 1) := by decide +kernel
theorem dX9_isFirst_41 : decode cX9_isFirst 41 = .ok (.iload_n 2, 1) := by decide +kernel
theorem dX9_isFirst_42 : decode cX9_isFirst 42 = .ok (.iload_n 3, 1) := by decide +kernel
theorem dX9_isFirst_43 : decode cX9_isFirst 43 = .ok (.iload 5, 2) := by decide +kernel
theorem dX9_isFirst_45 : decode cX9_isFirst 45 = .ok (.invokevirtual 202, 3) := by decide +kernel
theorem dX9_isFirst_48 : decode cX9_isFirst 48 = .ok (.ifCond .eq 5, 3) := by decide +kernel
theorem dX9_isFirst_51 : decode cX9_isFirst 51 = .ok (.iconst 0, 1) := by decide +kernel
theorem dX9_isFirst_52 : decode cX9_isFirst 52 = .ok (.ireturn, 1) := by decide +kernel
theorem dX9_isFirst_53 : decode cX9_isFirst 53 = .ok (.iinc 5 1, 3) := by decide +kernel
theorem dX9_isFirst_56 : decode cX9_isFirst 56 = .ok (.goto (-24), 3) := by decide +kernel
theorem dX9_isFirst_59 : decode cX9_isFirst 59 = .ok (.iinc 3 1, 3) := by decide +kernel
theorem dX9_isFirst_62 : decode cX9_isFirst 62 = .ok (.goto (-60), 3) := by decide +kernel
theorem dX9_isFirst_65 : decode cX9_isFirst 65 = .ok (.iconst 1, 1) := by decide +kernel
theorem dX9_isFirst_66 : decode cX9_isFirst 66 = .ok (.ireturn, 1) := by decide +kernel
theorem dX9_sharing_0 : decode cX9_sharing 0 = .ok (.aload_n 0, 1) := by decide +kernel
theorem dX9_sharing_1 : decode cX9_sharing 1 = .ok (.aload_n 0, 1) := by decide +kernel
theorem dX9_sharing_2 : decode cX9_sharing 2 = .ok (.iload_n 1, 1) := by decide +kernel
theorem dX9_sharing_3 : decode cX9_sharing 3 = .ok (.iload_n 2, 1) := by decide +kernel
theorem dX9_sharing_4 : decode cX9_sharing 4 = .ok (.invokevirtual 196, 3) := by decide +kernel
theorem dX9_sharing_7 : decode cX9_sharing 7 = .ok (.ifCond .eq 7, 3) := by decide +kernel
theorem dX9_sharing_10 : decode cX9_sharing 10 = .ok (.iconst 1, 1) := by decide +kernel
theorem dX9_sharing_11 : decode cX9_sharing 11 = .ok (.goto 4, 3) := by decide +kernel
theorem dX9_sharing_14 : decode cX9_sharing 14 = .ok (.iconst 0, 1) := by decide +kernel
theorem dX9_sharing_15 : decode cX9_sharing 15 = .ok (.invokevirtual 114, 3) := by decide +kernel
theorem dX9_sharing_18 : decode cX9_sharing 18 = .ok (.ifCond .eq 5, 3) := by decide +kernel
theorem dX9_sharing_21 : decode cX9_sharing 21 = .ok (.iconst 0, 1) := by decide +kernel
theorem dX9_sharing_22 : decode cX9_sharing 22 = .ok (.ireturn, 1) := by decide +kernel
theorem dX9_sharing_23 : decode cX9_sharing 23 = .ok (.iconst 0, 1) := by decide +kernel
theorem dX9_sharing_24 : decode cX9_sharing 24 = .ok (.istore_n 3, 1) := by decide +kernel
theorem dX9_sharing_25 : decode cX9_sharing 25 = .ok (.iconst 0, 1) := by decide +kernel
theorem dX9_sharing_26 : decode cX9_sharing 26 = .ok (.istore 4, 2) := by decide +kernel
theorem dX9_sharing_28 : decode cX9_sharing 28 = .ok (.iload 4, 2) := by decide +kernel
theorem dX9_sharing_30 : decode cX9_sharing 30 = .ok (.aload_n 0, 1) := by decide +kernel
theorem dX9_sharing_31 : decode cX9_sharing 31 = .ok (.getfield 130, 3) := by decide +kernel
theorem dX9_sharing_34 : decode cX9_sharing 34 = .ok (.if_icmp .ge 56, 3) := by decide +kernel
theorem dX9_sharing_37 : decode cX9_sharing 37 = .ok (.iconst 0, 1) := by decide +kernel
theorem dX9_sharing_38 : decode cX9_sharing 38 = .ok (.istore 5, 2) := by decide +kernel
theorem dX9_sharing_40 : decode cX9_sharing 40 = .ok (.iload 5, 2) := by decide +kernel
theorem dX9_sharing_42 : decode cX9_sharing 42 = .ok (.aload_n 0, 1) := by decide +kernel
theorem dX9_sharing_43 : decode cX9_sharing 43 = .ok (.getfield 32, 3) := by decide +kernel
theorem dX9_sharing_46 : decode cX9_sharing 46 = .ok (.aload_n 0, 1) := by decide +kernel
theorem dX9_sharing_47 : decode cX9_sharing 47 = .ok (.getfield 50, 3) := by decide +kernel
theorem dX9_sharing_50 : decode cX9_sharing 50 = .ok (.iload 4, 2) := by decide +kernel
theorem dX9_sharing_52 : decode cX9_sharing 52 = .ok (.iaload, 1) := by decide +kernel
theorem dX9_sharing_53 : decode cX9_sharing 53 = .ok (.iaload, 1) := by decide +kernel
theorem dX9_sharing_54 : decode cX9_sharing 54 = .ok (.if_icmp .ge 30, 3) := by decide +kernel
theorem dX9_sharing_57 : decode cX9_sharing 57 = .ok (.iload_n 3, 1) := by decide +kernel
theorem dX9_sharing_58 : decode cX9_sharing 58 = .ok (.aload_n 0, 1) := by decide +kernel
theorem dX9_sharing_59 : decode cX9_sharing 59 = .ok (.iload_n 1, 1) := by decide +kernel
theorem dX9_sharing_60 : decode cX9_sharing 60 = .ok (.iload_n 2, 1) := by decide +kernel
theorem dX9_sharing_61 : decode cX9_sharing 61 = .ok (.iload 4, 2) := by decide +kernel
theorem dX9_sharing_63 : decode cX9_sharing 63 = .ok (.iload 5, 2) := by decide +kernel
theorem dX9_sharing_65 : decode cX9_sharing 65 = .ok (.invokevirtual 202, 3) := by decide +kernel
theorem dX9_sharing_68 : decode cX9_sharing 68 = .ok (.ifCond .eq 7, 3) := by decide +kernel
theorem dX9_sharing_71 : decode cX9_sharing 71 = .ok (.iconst 1, 1) := by decide +kernel
theorem dX9_sharing_72 : decode cX9_sharing 72 = .ok (.goto 4, 3) := by decide +kernel
theorem dX9_sharing_75 : decode cX9_sharing 75 = .ok (.iconst 0, 1) := by decide +kernel
theorem dX9_sharing_76 : decode cX9_sharing 76 = .ok (.iadd, 1) := by decide +kernel
theorem dX9_sharing_77 : decode cX9_sharing 77 = .ok (.istore_n 3, 1) := by decide +kernel
theorem dX9_sharing_78 : decode cX9_sharing 78 = .ok (.iinc 5 1, 3) := by decide +kernel
theorem dX9_sharing_81 : decode cX9_sharing 81 = .ok (.goto (-41), 3) := by decide +kernel
theorem dX9_sharing_84 : decode cX9_sharing 84 = .ok (.iinc 4 1, 3) := by decide +kernel
theorem dX9_sharing_87 : decode cX9_sharing 87 = .ok (.goto (-59), 3) := by decide +kernel
theorem dX9_sharing_90 : decode cX9_sharing 90 = .ok (.iload_n 3, 1) := by decide +kernel
theorem dX9_sharing_91 : decode cX9_sharing 91 = .ok (.ireturn, 1) := by decide +kernel
theorem dX9_isNoColour_0 : decode cX9_isNoColour 0 = .ok (.iload_n 0, 1) := by decide +kernel
theorem dX9_isNoColour_1 : decode cX9_isNoColour 1 = .ok (.iconst 0, 1) := by decide +kernel
theorem dX9_isNoColour_2 : decode cX9_isNoColour 2 = .ok (.iconst 3, 1) := by decide +kernel
theorem dX9_isNoColour_3 : decode cX9_isNoColour 3 = .ok (.invokestatic 103, 3) := by decide +kernel
theorem dX9_isNoColour_6 : decode cX9_isNoColour 6 = .ok (.ifCond .ne 7, 3) := by decide +kernel
theorem dX9_isNoColour_9 : decode cX9_isNoColour 9 = .ok (.iconst 1, 1) := by decide +kernel
theorem dX9_isNoColour_10 : decode cX9_isNoColour 10 = .ok (.goto 4, 3) := by decide +kernel
theorem dX9_isNoColour_13 : decode cX9_isNoColour 13 = .ok (.iconst 0, 1) := by decide +kernel
theorem dX9_isNoColour_14 : decode cX9_isNoColour 14 = .ok (.ireturn, 1) := by decide +kernel
theorem dX9_stock_0 : decode cX9_stock 0 = .ok (.aload_n 0, 1) := by decide +kernel
theorem dX9_stock_1 : decode cX9_stock 1 = .ok (.iload_n 1, 1) := by decide +kernel
theorem dX9_stock_2 : decode cX9_stock 2 = .ok (.invokestatic 206, 3) := by decide +kernel
theorem dX9_stock_5 : decode cX9_stock 5 = .ok (.ifCond .ne 13, 3) := by decide +kernel
theorem dX9_stock_8 : decode cX9_stock 8 = .ok (.iload_n 2, 1) := by decide +kernel
theorem dX9_stock_9 : decode cX9_stock 9 = .ok (.iconst 1, 1) := by decide +kernel
theorem dX9_stock_10 : decode cX9_stock 10 = .ok (.bipush 20, 2) := by decide +kernel
theorem dX9_stock_12 : decode cX9_stock 12 = .ok (.invokestatic 103, 3) := by decide +kernel
theorem dX9_stock_15 : decode cX9_stock 15 = .ok (.ifCond .ne 7, 3) := by decide +kernel
theorem dX9_stock_18 : decode cX9_stock 18 = .ok (.iconst 1, 1) := by decide +kernel
theorem dX9_stock_19 : decode cX9_stock 19 = .ok (.goto 4, 3) := by decide +kernel
theorem dX9_stock_22 : decode cX9_stock 22 = .ok (.iconst 0, 1) := by decide +kernel
theorem dX9_stock_23 : decode cX9_stock 23 = .ok (.invokevirtual 114, 3) := by decide +kernel
theorem dX9_stock_26 : decode cX9_stock 26 = .ok (.ifCond .eq 5, 3) := by decide +kernel
theorem dX9_stock_29 : decode cX9_stock 29 = .ok (.iconst 0, 1) := by decide +kernel
theorem dX9_stock_30 : decode cX9_stock 30 = .ok (.ireturn, 1) := by decide +kernel
theorem dX9_stock_31 : decode cX9_stock 31 = .ok (.aload_n 0, 1) := by decide +kernel
theorem dX9_stock_32 : decode cX9_stock 32 = .ok (.getfield 89, 3) := by decide +kernel
theorem dX9_stock_35 : decode cX9_stock 35 = .ok (.iload_n 1, 1) := by decide +kernel
theorem dX9_stock_36 : decode cX9_stock 36 = .ok (.dup2, 1) := by decide +kernel
theorem dX9_stock_37 : decode cX9_stock 37 = .ok (.iaload, 1) := by decide +kernel
theorem dX9_stock_38 : decode cX9_stock 38 = .ok (.iload_n 2, 1) := by decide +kernel
theorem dX9_stock_39 : decode cX9_stock 39 = .ok (.iadd, 1) := by decide +kernel
theorem dX9_stock_40 : decode cX9_stock 40 = .ok (.iastore, 1) := by decide +kernel
theorem dX9_stock_41 : decode cX9_stock 41 = .ok (.aload_n 0, 1) := by decide +kernel
theorem dX9_stock_42 : decode cX9_stock 42 = .ok (.iload_n 1, 1) := by decide +kernel
theorem dX9_stock_43 : decode cX9_stock 43 = .ok (.invokevirtual 177, 3) := by decide +kernel
theorem dX9_stock_46 : decode cX9_stock 46 = .ok (.aload_n 0, 1) := by decide +kernel
theorem dX9_stock_47 : decode cX9_stock 47 = .ok (.getfield 89, 3) := by decide +kernel
theorem dX9_stock_50 : decode cX9_stock 50 = .ok (.iload_n 1, 1) := by decide +kernel
theorem dX9_stock_51 : decode cX9_stock 51 = .ok (.iaload, 1) := by decide +kernel
theorem dX9_stock_52 : decode cX9_stock 52 = .ok (.ireturn, 1) := by decide +kernel
theorem dX9_inStock_0 : decode cX9_inStock 0 = .ok (.aload_n 0, 1) := by decide +kernel
theorem dX9_inStock_1 : decode cX9_inStock 1 = .ok (.iload_n 1, 1) := by decide +kernel
theorem dX9_inStock_2 : decode cX9_inStock 2 = .ok (.invokestatic 206, 3) := by decide +kernel
theorem dX9_inStock_5 : decode cX9_inStock 5 = .ok (.ifCond .eq 7, 3) := by decide +kernel
theorem dX9_inStock_8 : decode cX9_inStock 8 = .ok (.iconst 1, 1) := by decide +kernel
theorem dX9_inStock_9 : decode cX9_inStock 9 = .ok (.goto 4, 3) := by decide +kernel
theorem dX9_inStock_12 : decode cX9_inStock 12 = .ok (.iconst 0, 1) := by decide +kernel
theorem dX9_inStock_13 : decode cX9_inStock 13 = .ok (.invokevirtual 114, 3) := by decide +kernel
theorem dX9_inStock_16 : decode cX9_inStock 16 = .ok (.ifCond .eq 7, 3) := by decide +kernel
theorem dX9_inStock_19 : decode cX9_inStock 19 = .ok (.iconst 0, 1) := by decide +kernel
theorem dX9_inStock_20 : decode cX9_inStock 20 = .ok (.goto 9, 3) := by decide +kernel
theorem dX9_inStock_23 : decode cX9_inStock 23 = .ok (.aload_n 0, 1) := by decide +kernel
theorem dX9_inStock_24 : decode cX9_inStock 24 = .ok (.getfield 89, 3) := by decide +kernel
theorem dX9_inStock_27 : decode cX9_inStock 27 = .ok (.iload_n 1, 1) := by decide +kernel
theorem dX9_inStock_28 : decode cX9_inStock 28 = .ok (.iaload, 1) := by decide +kernel
theorem dX9_inStock_29 : decode cX9_inStock 29 = .ok (.ireturn, 1) := by decide +kernel
theorem dX9_out_0 : decode cX9_out 0 = .ok (.aload_n 0, 1) := by decide +kernel
theorem dX9_out_1 : decode cX9_out 1 = .ok (.iload_n 1, 1) := by decide +kernel
theorem dX9_out_2 : decode cX9_out 2 = .ok (.invokestatic 206, 3) := by decide +kernel
theorem dX9_out_5 : decode cX9_out 5 = .ok (.ifCond .eq 7, 3) := by decide +kernel
theorem dX9_out_8 : decode cX9_out 8 = .ok (.iconst 1, 1) := by decide +kernel
theorem dX9_out_9 : decode cX9_out 9 = .ok (.goto 4, 3) := by decide +kernel
theorem dX9_out_12 : decode cX9_out 12 = .ok (.iconst 0, 1) := by decide +kernel
theorem dX9_out_13 : decode cX9_out 13 = .ok (.invokevirtual 114, 3) := by decide +kernel
theorem dX9_out_16 : decode cX9_out 16 = .ok (.ifCond .eq 5, 3) := by decide +kernel
theorem dX9_out_19 : decode cX9_out 19 = .ok (.iconst 0, 1) := by decide +kernel
theorem dX9_out_20 : decode cX9_out 20 = .ok (.ireturn, 1) := by decide +kernel
theorem dX9_out_21 : decode cX9_out 21 = .ok (.iconst 0, 1) := by decide +kernel
theorem dX9_out_22 : decode cX9_out 22 = .ok (.istore_n 2, 1) := by decide +kernel
theorem dX9_out_23 : decode cX9_out 23 = .ok (.iconst 0, 1) := by decide +kernel
theorem dX9_out_24 : decode cX9_out 24 = .ok (.istore_n 3, 1) := by decide +kernel
theorem dX9_out_25 : decode cX9_out 25 = .ok (.iload_n 3, 1) := by decide +kernel
theorem dX9_out_26 : decode cX9_out 26 = .ok (.aload_n 0, 1) := by decide +kernel
theorem dX9_out_27 : decode cX9_out 27 = .ok (.getfield 127, 3) := by decide +kernel
theorem dX9_out_30 : decode cX9_out 30 = .ok (.if_icmp .ge 62, 3) := by decide +kernel
theorem dX9_out_33 : decode cX9_out 33 = .ok (.iconst 0, 1) := by decide +kernel
theorem dX9_out_34 : decode cX9_out 34 = .ok (.istore 4, 2) := by decide +kernel
theorem dX9_out_36 : decode cX9_out 36 = .ok (.iload 4, 2) := by decide +kernel
theorem dX9_out_38 : decode cX9_out 38 = .ok (.aload_n 0, 1) := by decide +kernel
theorem dX9_out_39 : decode cX9_out 39 = .ok (.getfield 124, 3) := by decide +kernel
theorem dX9_out_42 : decode cX9_out 42 = .ok (.if_icmp .ge 44, 3) := by decide +kernel
theorem dX9_out_45 : decode cX9_out 45 = .ok (.iload_n 2, 1) := by decide +kernel
theorem dX9_out_46 : decode cX9_out 46 = .ok (.aload_n 0, 1) := by decide +kernel
theorem dX9_out_47 : decode cX9_out 47 = .ok (.getfield 26, 3) := by decide +kernel
theorem dX9_out_50 : decode cX9_out 50 = .ok (.iload 4, 2) := by decide +kernel
theorem dX9_out_52 : decode cX9_out 52 = .ok (.iaload, 1) := by decide +kernel
theorem dX9_out_53 : decode cX9_out 53 = .ok (.iload_n 1, 1) := by decide +kernel
theorem dX9_out_54 : decode cX9_out 54 = .ok (.if_icmp .ne 23, 3) := by decide +kernel
theorem dX9_out_57 : decode cX9_out 57 = .ok (.aload_n 0, 1) := by decide +kernel
theorem dX9_out_58 : decode cX9_out 58 = .ok (.getfield 83, 3) := by decide +kernel
theorem dX9_out_61 : decode cX9_out 61 = .ok (.iconst 5, 1) := by decide +kernel
theorem dX9_out_62 : decode cX9_out 62 = .ok (.iload_n 3, 1) := by decide +kernel
theorem dX9_out_63 : decode cX9_out 63 = .ok (.imul, 1) := by decide +kernel
theorem dX9_out_64 : decode cX9_out 64 = .ok (.iload 4, 2) := by decide +kernel
theorem dX9_out_66 : decode cX9_out 66 = .ok (.iadd, 1) := by decide +kernel
theorem dX9_out_67 : decode cX9_out 67 = .ok (.caload, 1) := by decide +kernel
theorem dX9_out_68 : decode cX9_out 68 = .ok (.bipush 111, 2) := by decide +kernel
theorem dX9_out_70 : decode cX9_out 70 = .ok (.if_icmp .ne 7, 3) := by decide +kernel
theorem dX9_out_73 : decode cX9_out 73 = .ok (.iconst 1, 1) := by decide +kernel
theorem dX9_out_74 : decode cX9_out 74 = .ok (.goto 4, 3) := by decide +kernel
theorem dX9_out_77 : decode cX9_out 77 = .ok (.iconst 0, 1) := by decide +kernel
theorem dX9_out_78 : decode cX9_out 78 = .ok (.iadd, 1) := by decide +kernel
theorem dX9_out_79 : decode cX9_out 79 = .ok (.istore_n 2, 1) := by decide +kernel
theorem dX9_out_80 : decode cX9_out 80 = .ok (.iinc 4 1, 3) := by decide +kernel
theorem dX9_out_83 : decode cX9_out 83 = .ok (.goto (-47), 3) := by decide +kernel
theorem dX9_out_86 : decode cX9_out 86 = .ok (.iinc 3 1, 3) := by decide +kernel
theorem dX9_out_89 : decode cX9_out 89 = .ok (.goto (-64), 3) := by decide +kernel
theorem dX9_out_92 : decode cX9_out 92 = .ok (.iload_n 2, 1) := by decide +kernel
theorem dX9_out_93 : decode cX9_out 93 = .ok (.ireturn, 1) := by decide +kernel
theorem dX9_balloon_0 : decode cX9_balloon 0 = .ok (.aload_n 0, 1) := by decide +kernel
theorem dX9_balloon_1 : decode cX9_balloon 1 = .ok (.aload_n 0, 1) := by decide +kernel
theorem dX9_balloon_2 : decode cX9_balloon 2 = .ok (.iload_n 1, 1) := by decide +kernel
theorem dX9_balloon_3 : decode cX9_balloon 3 = .ok (.invokevirtual 190, 3) := by decide +kernel
theorem dX9_balloon_6 : decode cX9_balloon 6 = .ok (.ifCond .ne 11, 3) := by decide +kernel
theorem dX9_balloon_9 : decode cX9_balloon 9 = .ok (.aload_n 0, 1) := by decide +kernel
theorem dX9_balloon_10 : decode cX9_balloon 10 = .ok (.iload_n 2, 1) := by decide +kernel
theorem dX9_balloon_11 : decode cX9_balloon 11 = .ok (.invokevirtual 133, 3) := by decide +kernel
theorem dX9_balloon_14 : decode cX9_balloon 14 = .ok (.ifCond .eq 7, 3) := by decide +kernel
theorem dX9_balloon_17 : decode cX9_balloon 17 = .ok (.iconst 1, 1) := by decide +kernel
theorem dX9_balloon_18 : decode cX9_balloon 18 = .ok (.goto 4, 3) := by decide +kernel
theorem dX9_balloon_21 : decode cX9_balloon 21 = .ok (.iconst 0, 1) := by decide +kernel
theorem dX9_balloon_22 : decode cX9_balloon 22 = .ok (.invokevirtual 114, 3) := by decide +kernel
theorem dX9_balloon_25 : decode cX9_balloon 25 = .ok (.ifCond .eq 8, 3) := by decide +kernel
theorem dX9_balloon_28 : decode cX9_balloon 28 = .ok (.bipush 32, 2) := by decide +kernel
theorem dX9_balloon_30 : decode cX9_balloon 30 = .ok (.goto 13, 3) := by decide +kernel
theorem dX9_balloon_33 : decode cX9_balloon 33 = .ok (.aload_n 0, 1) := by decide +kernel
theorem dX9_balloon_34 : decode cX9_balloon 34 = .ok (.getfield 83, 3) := by decide +kernel
theorem dX9_balloon_37 : decode cX9_balloon 37 = .ok (.iconst 5, 1) := by decide +kernel
theorem dX9_balloon_38 : decode cX9_balloon 38 = .ok (.iload_n 1, 1) := by decide +kernel
theorem dX9_balloon_39 : decode cX9_balloon 39 = .ok (.imul, 1) := by decide +kernel
theorem dX9_balloon_40 : decode cX9_balloon 40 = .ok (.iload_n 2, 1) := by decide +kernel
theorem dX9_balloon_41 : decode cX9_balloon 41 = .ok (.iadd, 1) := by decide +kernel
theorem dX9_balloon_42 : decode cX9_balloon 42 = .ok (.caload, 1) := by decide +kernel
theorem dX9_balloon_43 : decode cX9_balloon 43 = .ok (.ireturn, 1) := by decide +kernel
theorem dX9_waiting_0 : decode cX9_waiting 0 = .ok (.aload_n 0, 1) := by decide +kernel
theorem dX9_waiting_1 : decode cX9_waiting 1 = .ok (.iload_n 1, 1) := by decide +kernel
theorem dX9_waiting_2 : decode cX9_waiting 2 = .ok (.invokestatic 206, 3) := by decide +kernel
theorem dX9_waiting_5 : decode cX9_waiting 5 = .ok (.ifCond .eq 7, 3) := by decide +kernel
theorem dX9_waiting_8 : decode cX9_waiting 8 = .ok (.iconst 1, 1) := by decide +kernel
theorem dX9_waiting_9 : decode cX9_waiting 9 = .ok (.goto 4, 3) := by decide +kernel
theorem dX9_waiting_12 : decode cX9_waiting 12 = .ok (.iconst 0, 1) := by decide +kernel
theorem dX9_waiting_13 : decode cX9_waiting 13 = .ok (.invokevirtual 114, 3) := by decide +kernel
theorem dX9_waiting_16 : decode cX9_waiting 16 = .ok (.ifCond .eq 5, 3) := by decide +kernel
theorem dX9_waiting_19 : decode cX9_waiting 19 = .ok (.iconst 0, 1) := by decide +kernel
theorem dX9_waiting_20 : decode cX9_waiting 20 = .ok (.ireturn, 1) := by decide +kernel
theorem dX9_waiting_21 : decode cX9_waiting 21 = .ok (.iload_n 2, 1) := by decide +kernel
theorem dX9_waiting_22 : decode cX9_waiting 22 = .ok (.ifCond .ge 7, 3) := by decide +kernel
theorem dX9_waiting_25 : decode cX9_waiting 25 = .ok (.iconst (-1), 1) := by decide +kernel
theorem dX9_waiting_26 : decode cX9_waiting 26 = .ok (.goto 9, 3) := by decide +kernel
theorem dX9_waiting_29 : decode cX9_waiting 29 = .ok (.aload_n 0, 1) := by decide +kernel
theorem dX9_waiting_30 : decode cX9_waiting 30 = .ok (.iload_n 1, 1) := by decide +kernel
theorem dX9_waiting_31 : decode cX9_waiting 31 = .ok (.iload_n 2, 1) := by decide +kernel
theorem dX9_waiting_32 : decode cX9_waiting 32 = .ok (.invokevirtual 186, 3) := by decide +kernel
theorem dX9_waiting_35 : decode cX9_waiting 35 = .ok (.istore_n 3, 1) := by decide +kernel
theorem dX9_waiting_36 : decode cX9_waiting 36 = .ok (.aload_n 0, 1) := by decide +kernel
theorem dX9_waiting_37 : decode cX9_waiting 37 = .ok (.iload_n 3, 1) := by decide +kernel
theorem dX9_waiting_38 : decode cX9_waiting 38 = .ok (.iconst (-1), 1) := by decide +kernel
theorem dX9_waiting_39 : decode cX9_waiting 39 = .ok (.if_icmp .ne 7, 3) := by decide +kernel
theorem dX9_waiting_42 : decode cX9_waiting 42 = .ok (.iconst 2, 1) := by decide +kernel
theorem dX9_waiting_43 : decode cX9_waiting 43 = .ok (.goto 4, 3) := by decide +kernel
theorem dX9_waiting_46 : decode cX9_waiting 46 = .ok (.iconst 0, 1) := by decide +kernel
theorem dX9_waiting_47 : decode cX9_waiting 47 = .ok (.invokevirtual 114, 3) := by decide +kernel
theorem dX9_waiting_50 : decode cX9_waiting 50 = .ok (.ifCond .eq 7, 3) := by decide +kernel
theorem dX9_waiting_53 : decode cX9_waiting 53 = .ok (.iconst 0, 1) := by decide +kernel
theorem dX9_waiting_54 : decode cX9_waiting 54 = .ok (.goto 7, 3) := by decide +kernel
theorem dX9_waiting_57 : decode cX9_waiting 57 = .ok (.iload_n 3, 1) := by decide +kernel
theorem dX9_waiting_58 : decode cX9_waiting 58 = .ok (.bipush 10, 2) := by decide +kernel
theorem dX9_waiting_60 : decode cX9_waiting 60 = .ok (.idiv, 1) := by decide +kernel
theorem dX9_waiting_61 : decode cX9_waiting 61 = .ok (.ireturn, 1) := by decide +kernel
theorem dX9_calledBack_0 : decode cX9_calledBack 0 = .ok (.aload_n 0, 1) := by decide +kernel
theorem dX9_calledBack_1 : decode cX9_calledBack 1 = .ok (.iconst 0, 1) := by decide +kernel
theorem dX9_calledBack_2 : decode cX9_calledBack 2 = .ok (.putfield 100, 3) := by decide +kernel
theorem dX9_calledBack_5 : decode cX9_calledBack 5 = .ok (.aload_n 0, 1) := by decide +kernel
theorem dX9_calledBack_6 : decode cX9_calledBack 6 = .ok (.getfield 174, 3) := by decide +kernel
theorem dX9_calledBack_9 : decode cX9_calledBack 9 = .ok (.ireturn, 1) := by decide +kernel
theorem dX9_isPending_0 : decode cX9_isPending 0 = .ok (.aload_n 0, 1) := by decide +kernel
theorem dX9_isPending_1 : decode cX9_isPending 1 = .ok (.getfield 92, 3) := by decide +kernel
theorem dX9_isPending_4 : decode cX9_isPending 4 = .ok (.iconst (-1), 1) := by decide +kernel
theorem dX9_isPending_5 : decode cX9_isPending 5 = .ok (.if_icmp .eq 29, 3) := by decide +kernel
theorem dX9_isPending_8 : decode cX9_isPending 8 = .ok (.aload_n 0, 1) := by decide +kernel
theorem dX9_isPending_9 : decode cX9_isPending 9 = .ok (.getfield 53, 3) := by decide +kernel
theorem dX9_isPending_12 : decode cX9_isPending 12 = .ok (.iload_n 1, 1) := by decide +kernel
theorem dX9_isPending_13 : decode cX9_isPending 13 = .ok (.iaload, 1) := by decide +kernel
theorem dX9_isPending_14 : decode cX9_isPending 14 = .ok (.aload_n 0, 1) := by decide +kernel
theorem dX9_isPending_15 : decode cX9_isPending 15 = .ok (.getfield 92, 3) := by decide +kernel
theorem dX9_isPending_18 : decode cX9_isPending 18 = .ok (.if_icmp .lt 16, 3) := by decide +kernel
theorem dX9_isPending_21 : decode cX9_isPending 21 = .ok (.aload_n 0, 1) := by decide +kernel
theorem dX9_isPending_22 : decode cX9_isPending 22 = .ok (.getfield 96, 3) := by decide +kernel
theorem dX9_isPending_25 : decode cX9_isPending 25 = .ok (.iload_n 1, 1) := by decide +kernel
theorem dX9_isPending_26 : decode cX9_isPending 26 = .ok (.baload, 1) := by decide +kernel
theorem dX9_isPending_27 : decode cX9_isPending 27 = .ok (.ifCond .ne 7, 3) := by decide +kernel
theorem dX9_isPending_30 : decode cX9_isPending 30 = .ok (.iconst 1, 1) := by decide +kernel
theorem dX9_isPending_31 : decode cX9_isPending 31 = .ok (.goto 4, 3) := by decide +kernel
theorem dX9_isPending_34 : decode cX9_isPending 34 = .ok (.iconst 0, 1) := by decide +kernel
theorem dX9_isPending_35 : decode cX9_isPending 35 = .ok (.ireturn, 1) := by decide +kernel
theorem dX9_pendingOf_0 : decode cX9_pendingOf 0 = .ok (.iconst 0, 1) := by decide +kernel
theorem dX9_pendingOf_1 : decode cX9_pendingOf 1 = .ok (.istore_n 3, 1) := by decide +kernel
theorem dX9_pendingOf_2 : decode cX9_pendingOf 2 = .ok (.iconst 0, 1) := by decide +kernel
theorem dX9_pendingOf_3 : decode cX9_pendingOf 3 = .ok (.istore 4, 2) := by decide +kernel
theorem dX9_pendingOf_5 : decode cX9_pendingOf 5 = .ok (.iload 4, 2) := by decide +kernel
theorem dX9_pendingOf_7 : decode cX9_pendingOf 7 = .ok (.aload_n 0, 1) := by decide +kernel
theorem dX9_pendingOf_8 : decode cX9_pendingOf 8 = .ok (.getfield 130, 3) := by decide +kernel
theorem dX9_pendingOf_11 : decode cX9_pendingOf 11 = .ok (.if_icmp .ge 48, 3) := by decide +kernel
theorem dX9_pendingOf_14 : decode cX9_pendingOf 14 = .ok (.iload_n 3, 1) := by decide +kernel
theorem dX9_pendingOf_15 : decode cX9_pendingOf 15 = .ok (.aload_n 0, 1) := by decide +kernel
theorem dX9_pendingOf_16 : decode cX9_pendingOf 16 = .ok (.getfield 47, 3) := by decide +kernel
theorem dX9_pendingOf_19 : decode cX9_pendingOf 19 = .ok (.iload 4, 2) := by decide +kernel
theorem dX9_pendingOf_21 : decode cX9_pendingOf 21 = .ok (.iaload, 1) := by decide +kernel
theorem dX9_pendingOf_22 : decode cX9_pendingOf 22 = .ok (.iload_n 1, 1) := by decide +kernel
theorem dX9_pendingOf_23 : decode cX9_pendingOf 23 = .ok (.if_icmp .ne 27, 3) := by decide +kernel
theorem dX9_pendingOf_26 : decode cX9_pendingOf 26 = .ok (.aload_n 0, 1) := by decide +kernel
theorem dX9_pendingOf_27 : decode cX9_pendingOf 27 = .ok (.getfield 50, 3) := by decide +kernel
theorem dX9_pendingOf_30 : decode cX9_pendingOf 30 = .ok (.iload 4, 2) := by decide +kernel
theorem dX9_pendingOf_32 : decode cX9_pendingOf 32 = .ok (.iaload, 1) := by decide +kernel
theorem dX9_pendingOf_33 : decode cX9_pendingOf 33 = .ok (.iload_n 2, 1) := by decide +kernel
theorem dX9_pendingOf_34 : decode cX9_pendingOf 34 = .ok (.if_icmp .ne 16, 3) := by decide +kernel
theorem dX9_pendingOf_37 : decode cX9_pendingOf 37 = .ok (.aload_n 0, 1) := by decide +kernel
theorem dX9_pendingOf_38 : decode cX9_pendingOf 38 = .ok (.iload 4, 2) := by decide +kernel
theorem dX9_pendingOf_40 : decode cX9_pendingOf 40 = .ok (.invokevirtual 209, 3) := by decide +kernel
theorem dX9_pendingOf_43 : decode cX9_pendingOf 43 = .ok (.ifCond .eq 7, 3) := by decide +kernel
theorem dX9_pendingOf_46 : decode cX9_pendingOf 46 = .ok (.iconst 1, 1) := by decide +kernel
theorem dX9_pendingOf_47 : decode cX9_pendingOf 47 = .ok (.goto 4, 3) := by decide +kernel
theorem dX9_pendingOf_50 : decode cX9_pendingOf 50 = .ok (.iconst 0, 1) := by decide +kernel
theorem dX9_pendingOf_51 : decode cX9_pendingOf 51 = .ok (.iadd, 1) := by decide +kernel
theorem dX9_pendingOf_52 : decode cX9_pendingOf 52 = .ok (.istore_n 3, 1) := by decide +kernel
theorem dX9_pendingOf_53 : decode cX9_pendingOf 53 = .ok (.iinc 4 1, 3) := by decide +kernel
theorem dX9_pendingOf_56 : decode cX9_pendingOf 56 = .ok (.goto (-51), 3) := by decide +kernel
theorem dX9_pendingOf_59 : decode cX9_pendingOf 59 = .ok (.iload_n 3, 1) := by decide +kernel
theorem dX9_pendingOf_60 : decode cX9_pendingOf 60 = .ok (.ireturn, 1) := by decide +kernel
theorem dX9_freeze_0 : decode cX9_freeze 0 = .ok (.aload_n 0, 1) := by decide +kernel
theorem dX9_freeze_1 : decode cX9_freeze 1 = .ok (.iload_n 1, 1) := by decide +kernel
theorem dX9_freeze_2 : decode cX9_freeze 2 = .ok (.iconst 0, 1) := by decide +kernel
theorem dX9_freeze_3 : decode cX9_freeze 3 = .ok (.sipush 999, 3) := by decide +kernel
theorem dX9_freeze_6 : decode cX9_freeze 6 = .ok (.invokestatic 103, 3) := by decide +kernel
theorem dX9_freeze_9 : decode cX9_freeze 9 = .ok (.ifCond .ne 7, 3) := by decide +kernel
theorem dX9_freeze_12 : decode cX9_freeze 12 = .ok (.iconst 1, 1) := by decide +kernel
theorem dX9_freeze_13 : decode cX9_freeze 13 = .ok (.goto 16, 3) := by decide +kernel
theorem dX9_freeze_16 : decode cX9_freeze 16 = .ok (.aload_n 0, 1) := by decide +kernel
theorem dX9_freeze_17 : decode cX9_freeze 17 = .ok (.getfield 92, 3) := by decide +kernel
theorem dX9_freeze_20 : decode cX9_freeze 20 = .ok (.iconst (-1), 1) := by decide +kernel
theorem dX9_freeze_21 : decode cX9_freeze 21 = .ok (.if_icmp .eq 7, 3) := by decide +kernel
theorem dX9_freeze_24 : decode cX9_freeze 24 = .ok (.iconst 2, 1) := by decide +kernel
theorem dX9_freeze_25 : decode cX9_freeze 25 = .ok (.goto 4, 3) := by decide +kernel
theorem dX9_freeze_28 : decode cX9_freeze 28 = .ok (.iconst 0, 1) := by decide +kernel
theorem dX9_freeze_29 : decode cX9_freeze 29 = .ok (.invokevirtual 114, 3) := by decide +kernel
theorem dX9_freeze_32 : decode cX9_freeze 32 = .ok (.ifCond .eq 5, 3) := by decide +kernel
theorem dX9_freeze_35 : decode cX9_freeze 35 = .ok (.iconst 0, 1) := by decide +kernel
theorem dX9_freeze_36 : decode cX9_freeze 36 = .ok (.ireturn, 1) := by decide +kernel
theorem dX9_freeze_37 : decode cX9_freeze 37 = .ok (.aload_n 0, 1) := by decide +kernel
theorem dX9_freeze_38 : decode cX9_freeze 38 = .ok (.iload_n 1, 1) := by decide +kernel
theorem dX9_freeze_39 : decode cX9_freeze 39 = .ok (.putfield 92, 3) := by decide +kernel
theorem dX9_freeze_42 : decode cX9_freeze 42 = .ok (.iconst 0, 1) := by decide +kernel
theorem dX9_freeze_43 : decode cX9_freeze 43 = .ok (.istore_n 2, 1) := by decide +kernel
theorem dX9_freeze_44 : decode cX9_freeze 44 = .ok (.iconst 0, 1) := by decide +kernel
theorem dX9_freeze_45 : decode cX9_freeze 45 = .ok (.istore_n 3, 1) := by decide +kernel
theorem dX9_freeze_46 : decode cX9_freeze 46 = .ok (.iload_n 3, 1) := by decide +kernel
theorem dX9_freeze_47 : decode cX9_freeze 47 = .ok (.aload_n 0, 1) := by decide +kernel
theorem dX9_freeze_48 : decode cX9_freeze 48 = .ok (.getfield 130, 3) := by decide +kernel
theorem dX9_freeze_51 : decode cX9_freeze 51 = .ok (.if_icmp .ge 25, 3) := by decide +kernel
theorem dX9_freeze_54 : decode cX9_freeze 54 = .ok (.iload_n 2, 1) := by decide +kernel
theorem dX9_freeze_55 : decode cX9_freeze 55 = .ok (.aload_n 0, 1) := by decide +kernel
theorem dX9_freeze_56 : decode cX9_freeze 56 = .ok (.iload_n 3, 1) := by decide +kernel
theorem dX9_freeze_57 : decode cX9_freeze 57 = .ok (.invokevirtual 209, 3) := by decide +kernel
theorem dX9_freeze_60 : decode cX9_freeze 60 = .ok (.ifCond .eq 7, 3) := by decide +kernel
theorem dX9_freeze_63 : decode cX9_freeze 63 = .ok (.iconst 1, 1) := by decide +kernel
theorem dX9_freeze_64 : decode cX9_freeze 64 = .ok (.goto 4, 3) := by decide +kernel
theorem dX9_freeze_67 : decode cX9_freeze 67 = .ok (.iconst 0, 1) := by decide +kernel
theorem dX9_freeze_68 : decode cX9_freeze 68 = .ok (.iadd, 1) := by decide +kernel
theorem dX9_freeze_69 : decode cX9_freeze 69 = .ok (.istore_n 2, 1) := by decide +kernel
theorem dX9_freeze_70 : decode cX9_freeze 70 = .ok (.iinc 3 1, 3) := by decide +kernel
theorem dX9_freeze_73 : decode cX9_freeze 73 = .ok (.goto (-27), 3) := by decide +kernel
theorem dX9_freeze_76 : decode cX9_freeze 76 = .ok (.iload_n 2, 1) := by decide +kernel
theorem dX9_freeze_77 : decode cX9_freeze 77 = .ok (.ireturn, 1) := by decide +kernel
theorem dX9_pending_0 : decode cX9_pending 0 = .ok (.aload_n 0, 1) := by decide +kernel
theorem dX9_pending_1 : decode cX9_pending 1 = .ok (.aload_n 0, 1) := by decide +kernel
theorem dX9_pending_2 : decode cX9_pending 2 = .ok (.iload_n 1, 1) := by decide +kernel
theorem dX9_pending_3 : decode cX9_pending 3 = .ok (.invokevirtual 190, 3) := by decide +kernel
theorem dX9_pending_6 : decode cX9_pending 6 = .ok (.ifCond .ne 11, 3) := by decide +kernel
theorem dX9_pending_9 : decode cX9_pending 9 = .ok (.aload_n 0, 1) := by decide +kernel
theorem dX9_pending_10 : decode cX9_pending 10 = .ok (.iload_n 2, 1) := by decide +kernel
theorem dX9_pending_11 : decode cX9_pending 11 = .ok (.invokevirtual 133, 3) := by decide +kernel
theorem dX9_pending_14 : decode cX9_pending 14 = .ok (.ifCond .eq 7, 3) := by decide +kernel
theorem dX9_pending_17 : decode cX9_pending 17 = .ok (.iconst 1, 1) := by decide +kernel
theorem dX9_pending_18 : decode cX9_pending 18 = .ok (.goto 4, 3) := by decide +kernel
theorem dX9_pending_21 : decode cX9_pending 21 = .ok (.iconst 0, 1) := by decide +kernel
theorem dX9_pending_22 : decode cX9_pending 22 = .ok (.invokevirtual 114, 3) := by decide +kernel
theorem dX9_pending_25 : decode cX9_pending 25 = .ok (.ifCond .eq 7, 3) := by decide +kernel
theorem dX9_pending_28 : decode cX9_pending 28 = .ok (.iconst 0, 1) := by decide +kernel
theorem dX9_pending_29 : decode cX9_pending 29 = .ok (.goto 9, 3) := by decide +kernel
theorem dX9_pending_32 : decode cX9_pending 32 = .ok (.aload_n 0, 1) := by decide +kernel
theorem dX9_pending_33 : decode cX9_pending 33 = .ok (.iload_n 1, 1) := by decide +kernel
theorem dX9_pending_34 : decode cX9_pending 34 = .ok (.iload_n 2, 1) := by decide +kernel
theorem dX9_pending_35 : decode cX9_pending 35 = .ok (.invokevirtual 212, 3) := by decide +kernel
theorem dX9_pending_38 : decode cX9_pending 38 = .ok (.ireturn, 1) := by decide +kernel
theorem dX9_pendingIn_0 : decode cX9_pendingIn 0 = .ok (.iconst 0, 1) := by decide +kernel
theorem dX9_pendingIn_1 : decode cX9_pendingIn 1 = .ok (.istore_n 2, 1) := by decide +kernel
theorem dX9_pendingIn_2 : decode cX9_pendingIn 2 = .ok (.iload_n 2, 1) := by decide +kernel
theorem dX9_pendingIn_3 : decode cX9_pendingIn 3 = .ok (.aload_n 0, 1) := by decide +kernel
theorem dX9_pendingIn_4 : decode cX9_pendingIn 4 = .ok (.getfield 124, 3) := by decide +kernel
theorem dX9_pendingIn_7 : decode cX9_pendingIn 7 = .ok (.if_icmp .ge 20, 3) := by decide +kernel
theorem dX9_pendingIn_10 : decode cX9_pendingIn 10 = .ok (.aload_n 0, 1) := by decide +kernel
theorem dX9_pendingIn_11 : decode cX9_pendingIn 11 = .ok (.iload_n 1, 1) := by decide +kernel
theorem dX9_pendingIn_12 : decode cX9_pendingIn 12 = .ok (.iload_n 2, 1) := by decide +kernel
theorem dX9_pendingIn_13 : decode cX9_pendingIn 13 = .ok (.invokevirtual 212, 3) := by decide +kernel
theorem dX9_pendingIn_16 : decode cX9_pendingIn 16 = .ok (.ifCond .le 5, 3) := by decide +kernel
theorem dX9_pendingIn_19 : decode cX9_pendingIn 19 = .ok (.iload_n 2, 1) := by decide +kernel
theorem dX9_pendingIn_20 : decode cX9_pendingIn 20 = .ok (.ireturn, 1) := by decide +kernel
theorem dX9_pendingIn_21 : decode cX9_pendingIn 21 = .ok (.iinc 2 1, 3) := by decide +kernel
theorem dX9_pendingIn_24 : decode cX9_pendingIn 24 = .ok (.goto (-22), 3) := by decide +kernel
theorem dX9_pendingIn_27 : decode cX9_pendingIn 27 = .ok (.iconst (-1), 1) := by decide +kernel
theorem dX9_pendingIn_28 : decode cX9_pendingIn 28 = .ok (.ireturn, 1) := by decide +kernel
theorem dX9_open_0 : decode cX9_open 0 = .ok (.iconst (-1), 1) := by decide +kernel
theorem dX9_open_1 : decode cX9_open 1 = .ok (.istore_n 1, 1) := by decide +kernel
theorem dX9_open_2 : decode cX9_open 2 = .ok (.iconst 0, 1) := by decide +kernel
theorem dX9_open_3 : decode cX9_open 3 = .ok (.istore_n 2, 1) := by decide +kernel
theorem dX9_open_4 : decode cX9_open 4 = .ok (.iload_n 2, 1) := by decide +kernel
theorem dX9_open_5 : decode cX9_open 5 = .ok (.aload_n 0, 1) := by decide +kernel
theorem dX9_open_6 : decode cX9_open 6 = .ok (.getfield 127, 3) := by decide +kernel
theorem dX9_open_9 : decode cX9_open 9 = .ok (.if_icmp .ge 35, 3) := by decide +kernel
theorem dX9_open_12 : decode cX9_open 12 = .ok (.aload_n 0, 1) := by decide +kernel
theorem dX9_open_13 : decode cX9_open 13 = .ok (.iload_n 2, 1) := by decide +kernel
theorem dX9_open_14 : decode cX9_open 14 = .ok (.invokevirtual 215, 3) := by decide +kernel
theorem dX9_open_17 : decode cX9_open 17 = .ok (.iconst (-1), 1) := by decide +kernel
theorem dX9_open_18 : decode cX9_open 18 = .ok (.if_icmp .eq 20, 3) := by decide +kernel
theorem dX9_open_21 : decode cX9_open 21 = .ok (.iload_n 1, 1) := by decide +kernel
theorem dX9_open_22 : decode cX9_open 22 = .ok (.iconst (-1), 1) := by decide +kernel
theorem dX9_open_23 : decode cX9_open 23 = .ok (.if_icmp .eq 13, 3) := by decide +kernel
theorem dX9_open_26 : decode cX9_open 26 = .ok (.aload_n 0, 1) := by decide +kernel
theorem dX9_open_27 : decode cX9_open 27 = .ok (.iload_n 1, 1) := by decide +kernel
theorem dX9_open_28 : decode cX9_open 28 = .ok (.iload_n 2, 1) := by decide +kernel
theorem dX9_open_29 : decode cX9_open 29 = .ok (.iconst 1, 1) := by decide +kernel
theorem dX9_open_30 : decode cX9_open 30 = .ok (.invokevirtual 218, 3) := by decide +kernel
theorem dX9_open_33 : decode cX9_open 33 = .ok (.ifCond .eq 5, 3) := by decide +kernel
theorem dX9_open_36 : decode cX9_open 36 = .ok (.iload_n 2, 1) := by decide +kernel
theorem dX9_open_37 : decode cX9_open 37 = .ok (.istore_n 1, 1) := by decide +kernel
theorem dX9_open_38 : decode cX9_open 38 = .ok (.iinc 2 1, 3) := by decide +kernel
theorem dX9_open_41 : decode cX9_open 41 = .ok (.goto (-37), 3) := by decide +kernel
theorem dX9_open_44 : decode cX9_open 44 = .ok (.aload_n 0, 1) := by decide +kernel
theorem dX9_open_45 : decode cX9_open 45 = .ok (.iload_n 1, 1) := by decide +kernel
theorem dX9_open_46 : decode cX9_open 46 = .ok (.iconst (-1), 1) := by decide +kernel
theorem dX9_open_47 : decode cX9_open 47 = .ok (.if_icmp .ne 7, 3) := by decide +kernel
theorem dX9_open_50 : decode cX9_open 50 = .ok (.iconst 1, 1) := by decide +kernel
theorem dX9_open_51 : decode cX9_open 51 = .ok (.goto 4, 3) := by decide +kernel
theorem dX9_open_54 : decode cX9_open 54 = .ok (.iconst 0, 1) := by decide +kernel
theorem dX9_open_55 : decode cX9_open 55 = .ok (.invokevirtual 114, 3) := by decide +kernel
theorem dX9_open_58 : decode cX9_open 58 = .ok (.ifCond .eq 5, 3) := by decide +kernel
theorem dX9_open_61 : decode cX9_open 61 = .ok (.iconst 0, 1) := by decide +kernel
theorem dX9_open_62 : decode cX9_open 62 = .ok (.ireturn, 1) := by decide +kernel
theorem dX9_open_63 : decode cX9_open 63 = .ok (.aload_n 0, 1) := by decide +kernel
theorem dX9_open_64 : decode cX9_open 64 = .ok (.iload_n 1, 1) := by decide +kernel
theorem dX9_open_65 : decode cX9_open 65 = .ok (.invokevirtual 215, 3) := by decide +kernel
theorem dX9_open_68 : decode cX9_open 68 = .ok (.istore_n 2, 1) := by decide +kernel
theorem dX9_open_69 : decode cX9_open 69 = .ok (.iconst 0, 1) := by decide +kernel
theorem dX9_open_70 : decode cX9_open 70 = .ok (.istore_n 3, 1) := by decide +kernel
theorem dX9_open_71 : decode cX9_open 71 = .ok (.iload_n 3, 1) := by decide +kernel
theorem dX9_open_72 : decode cX9_open 72 = .ok (.aload_n 0, 1) := by decide +kernel
theorem dX9_open_73 : decode cX9_open 73 = .ok (.getfield 130, 3) := by decide +kernel
theorem dX9_open_76 : decode cX9_open 76 = .ok (.if_icmp .ge 44, 3) := by decide +kernel
theorem dX9_open_79 : decode cX9_open 79 = .ok (.aload_n 0, 1) := by decide +kernel
theorem dX9_open_80 : decode cX9_open 80 = .ok (.getfield 47, 3) := by decide +kernel
theorem dX9_open_83 : decode cX9_open 83 = .ok (.iload_n 3, 1) := by decide +kernel
theorem dX9_open_84 : decode cX9_open 84 = .ok (.iaload, 1) := by decide +kernel
theorem dX9_open_85 : decode cX9_open 85 = .ok (.iload_n 1, 1) := by decide +kernel
theorem dX9_open_86 : decode cX9_open 86 = .ok (.if_icmp .ne 28, 3) := by decide +kernel
theorem dX9_open_89 : decode cX9_open 89 = .ok (.aload_n 0, 1) := by decide +kernel
theorem dX9_open_90 : decode cX9_open 90 = .ok (.getfield 50, 3) := by decide +kernel
theorem dX9_open_93 : decode cX9_open 93 = .ok (.iload_n 3, 1) := by decide +kernel
theorem dX9_open_94 : decode cX9_open 94 = .ok (.iaload, 1) := by decide +kernel
theorem dX9_open_95 : decode cX9_open 95 = .ok (.iload_n 2, 1) := by decide +kernel
theorem dX9_open_96 : decode cX9_open 96 = .ok (.if_icmp .ne 18, 3) := by decide +kernel
theorem dX9_open_99 : decode cX9_open 99 = .ok (.aload_n 0, 1) := by decide +kernel
theorem dX9_open_100 : decode cX9_open 100 = .ok (.iload_n 3, 1) := by decide +kernel
theorem dX9_open_101 : decode cX9_open 101 = .ok (.invokevirtual 209, 3) := by decide +kernel
theorem dX9_open_104 : decode cX9_open 104 = .ok (.ifCond .eq 10, 3) := by decide +kernel
theorem dX9_open_107 : decode cX9_open 107 = .ok (.aload_n 0, 1) := by decide +kernel
theorem dX9_open_108 : decode cX9_open 108 = .ok (.getfield 96, 3) := by decide +kernel
theorem dX9_open_111 : decode cX9_open 111 = .ok (.iload_n 3, 1) := by decide +kernel
theorem dX9_open_112 : decode cX9_open 112 = .ok (.iconst 1, 1) := by decide +kernel
theorem dX9_open_113 : decode cX9_open 113 = .ok (.bastore, 1) := by decide +kernel
theorem dX9_open_114 : decode cX9_open 114 = .ok (.iinc 3 1, 3) := by decide +kernel
theorem dX9_open_117 : decode cX9_open 117 = .ok (.goto (-46), 3) := by decide +kernel
theorem dX9_open_120 : decode cX9_open 120 = .ok (.iload_n 1, 1) := by decide +kernel
theorem dX9_open_121 : decode cX9_open 121 = .ok (.ireturn, 1) := by decide +kernel
theorem dX9_firstOf_0 : decode cX9_firstOf 0 = .ok (.iconst 0, 1) := by decide +kernel
theorem dX9_firstOf_1 : decode cX9_firstOf 1 = .ok (.istore 4, 2) := by decide +kernel
theorem dX9_firstOf_3 : decode cX9_firstOf 3 = .ok (.iload 4, 2) := by decide +kernel
theorem dX9_firstOf_5 : decode cX9_firstOf 5 = .ok (.aload_n 0, 1) := by decide +kernel
theorem dX9_firstOf_6 : decode cX9_firstOf 6 = .ok (.getfield 130, 3) := by decide +kernel
theorem dX9_firstOf_9 : decode cX9_firstOf 9 = .ok (.if_icmp .ge 58, 3) := by decide +kernel
theorem dX9_firstOf_12 : decode cX9_firstOf 12 = .ok (.aload_n 0, 1) := by decide +kernel
theorem dX9_firstOf_13 : decode cX9_firstOf 13 = .ok (.getfield 47, 3) := by decide +kernel
theorem dX9_firstOf_16 : decode cX9_firstOf 16 = .ok (.iload 4, 2) := by decide +kernel
theorem dX9_firstOf_18 : decode cX9_firstOf 18 = .ok (.iaload, 1) := by decide +kernel
theorem dX9_firstOf_19 : decode cX9_firstOf 19 = .ok (.iload_n 1, 1) := by decide +kernel
theorem dX9_firstOf_20 : decode cX9_firstOf 20 = .ok (.if_icmp .ne 41, 3) := by decide +kernel
theorem dX9_firstOf_23 : decode cX9_firstOf 23 = .ok (.aload_n 0, 1) := by decide +kernel
theorem dX9_firstOf_24 : decode cX9_firstOf 24 = .ok (.getfield 50, 3) := by decide +kernel
theorem dX9_firstOf_27 : decode cX9_firstOf 27 = .ok (.iload 4, 2) := by decide +kernel
theorem dX9_firstOf_29 : decode cX9_firstOf 29 = .ok (.iaload, 1) := by decide +kernel
theorem dX9_firstOf_30 : decode cX9_firstOf 30 = .ok (.iload_n 2, 1) := by decide +kernel
theorem dX9_firstOf_31 : decode cX9_firstOf 31 = .ok (.if_icmp .ne 30, 3) := by decide +kernel
theorem dX9_firstOf_34 : decode cX9_firstOf 34 = .ok (.iload_n 3, 1) := by decide +kernel
theorem dX9_firstOf_35 : decode cX9_firstOf 35 = .ok (.ifCond .eq 12, 3) := by decide +kernel
theorem dX9_firstOf_38 : decode cX9_firstOf 38 = .ok (.aload_n 0, 1) := by decide +kernel
theorem dX9_firstOf_39 : decode cX9_firstOf 39 = .ok (.iload 4, 2) := by decide +kernel
theorem dX9_firstOf_41 : decode cX9_firstOf 41 = .ok (.invokevirtual 209, 3) := by decide +kernel
theorem dX9_firstOf_44 : decode cX9_firstOf 44 = .ok (.ifCond .ne 17, 3) := by decide +kernel
theorem dX9_firstOf_47 : decode cX9_firstOf 47 = .ok (.aload_n 0, 1) := by decide +kernel
theorem dX9_firstOf_48 : decode cX9_firstOf 48 = .ok (.iload 4, 2) := by decide +kernel
theorem dX9_firstOf_50 : decode cX9_firstOf 50 = .ok (.invokevirtual 160, 3) := by decide +kernel
theorem dX9_firstOf_53 : decode cX9_firstOf 53 = .ok (.bipush 97, 2) := by decide +kernel
theorem dX9_firstOf_55 : decode cX9_firstOf 55 = .ok (.if_icmp .ne 6, 3) := by decide +kernel
theorem dX9_firstOf_58 : decode cX9_firstOf 58 = .ok (.iload 4, 2) := by decide +kernel
theorem dX9_firstOf_60 : decode cX9_firstOf 60 = .ok (.ireturn, 1) := by decide +kernel
theorem dX9_firstOf_61 : decode cX9_firstOf 61 = .ok (.iinc 4 1, 3) := by decide +kernel
theorem dX9_firstOf_64 : decode cX9_firstOf 64 = .ok (.goto (-61), 3) := by decide +kernel
theorem dX9_firstOf_67 : decode cX9_firstOf 67 = .ok (.iconst (-1), 1) := by decide +kernel
theorem dX9_firstOf_68 : decode cX9_firstOf 68 = .ok (.ireturn, 1) := by decide +kernel
theorem dX9_solvedBy_0 : decode cX9_solvedBy 0 = .ok (.iconst 0, 1) := by decide +kernel
theorem dX9_solvedBy_1 : decode cX9_solvedBy 1 = .ok (.istore_n 3, 1) := by decide +kernel
theorem dX9_solvedBy_2 : decode cX9_solvedBy 2 = .ok (.iconst 0, 1) := by decide +kernel
theorem dX9_solvedBy_3 : decode cX9_solvedBy 3 = .ok (.istore 4, 2) := by decide +kernel
theorem dX9_solvedBy_5 : decode cX9_solvedBy 5 = .ok (.iload 4, 2) := by decide +kernel
theorem dX9_solvedBy_7 : decode cX9_solvedBy 7 = .ok (.aload_n 0, 1) := by decide +kernel
theorem dX9_solvedBy_8 : decode cX9_solvedBy 8 = .ok (.getfield 124, 3) := by decide +kernel
theorem dX9_solvedBy_11 : decode cX9_solvedBy 11 = .ok (.if_icmp .ge 29, 3) := by decide +kernel
theorem dX9_solvedBy_14 : decode cX9_solvedBy 14 = .ok (.iload_n 3, 1) := by decide +kernel
theorem dX9_solvedBy_15 : decode cX9_solvedBy 15 = .ok (.aload_n 0, 1) := by decide +kernel
theorem dX9_solvedBy_16 : decode cX9_solvedBy 16 = .ok (.iload_n 1, 1) := by decide +kernel
theorem dX9_solvedBy_17 : decode cX9_solvedBy 17 = .ok (.iload 4, 2) := by decide +kernel
theorem dX9_solvedBy_19 : decode cX9_solvedBy 19 = .ok (.iload_n 2, 1) := by decide +kernel
theorem dX9_solvedBy_20 : decode cX9_solvedBy 20 = .ok (.invokevirtual 222, 3) := by decide +kernel
theorem dX9_solvedBy_23 : decode cX9_solvedBy 23 = .ok (.iconst (-1), 1) := by decide +kernel
theorem dX9_solvedBy_24 : decode cX9_solvedBy 24 = .ok (.if_icmp .ne 7, 3) := by decide +kernel
theorem dX9_solvedBy_27 : decode cX9_solvedBy 27 = .ok (.iconst 0, 1) := by decide +kernel
theorem dX9_solvedBy_28 : decode cX9_solvedBy 28 = .ok (.goto 4, 3) := by decide +kernel
theorem dX9_solvedBy_31 : decode cX9_solvedBy 31 = .ok (.iconst 1, 1) := by decide +kernel
theorem dX9_solvedBy_32 : decode cX9_solvedBy 32 = .ok (.iadd, 1) := by decide +kernel
theorem dX9_solvedBy_33 : decode cX9_solvedBy 33 = .ok (.istore_n 3, 1) := by decide +kernel
theorem dX9_solvedBy_34 : decode cX9_solvedBy 34 = .ok (.iinc 4 1, 3) := by decide +kernel
theorem dX9_solvedBy_37 : decode cX9_solvedBy 37 = .ok (.goto (-32), 3) := by decide +kernel
theorem dX9_solvedBy_40 : decode cX9_solvedBy 40 = .ok (.iload_n 3, 1) := by decide +kernel
theorem dX9_solvedBy_41 : decode cX9_solvedBy 41 = .ok (.ireturn, 1) := by decide +kernel
theorem dX9_penaltyOf_0 : decode cX9_penaltyOf 0 = .ok (.iconst 0, 1) := by decide +kernel
theorem dX9_penaltyOf_1 : decode cX9_penaltyOf 1 = .ok (.istore_n 3, 1) := by decide +kernel
theorem dX9_penaltyOf_2 : decode cX9_penaltyOf 2 = .ok (.iconst 0, 1) := by decide +kernel
theorem dX9_penaltyOf_3 : decode cX9_penaltyOf 3 = .ok (.istore 4, 2) := by decide +kernel
theorem dX9_penaltyOf_5 : decode cX9_penaltyOf 5 = .ok (.iload 4, 2) := by decide +kernel
theorem dX9_penaltyOf_7 : decode cX9_penaltyOf 7 = .ok (.aload_n 0, 1) := by decide +kernel
theorem dX9_penaltyOf_8 : decode cX9_penaltyOf 8 = .ok (.getfield 124, 3) := by decide +kernel
theorem dX9_penaltyOf_11 : decode cX9_penaltyOf 11 = .ok (.if_icmp .ge 99, 3) := by decide +kernel
theorem dX9_penaltyOf_14 : decode cX9_penaltyOf 14 = .ok (.aload_n 0, 1) := by decide +kernel
theorem dX9_penaltyOf_15 : decode cX9_penaltyOf 15 = .ok (.iload_n 1, 1) := by decide +kernel
theorem dX9_penaltyOf_16 : decode cX9_penaltyOf 16 = .ok (.iload 4, 2) := by decide +kernel
theorem dX9_penaltyOf_18 : decode cX9_penaltyOf 18 = .ok (.iload_n 2, 1) := by decide +kernel
theorem dX9_penaltyOf_19 : decode cX9_penaltyOf 19 = .ok (.invokevirtual 222, 3) := by decide +kernel
theorem dX9_penaltyOf_22 : decode cX9_penaltyOf 22 = .ok (.istore 5, 2) := by decide +kernel
theorem dX9_penaltyOf_24 : decode cX9_penaltyOf 24 = .ok (.iload 5, 2) := by decide +kernel
theorem dX9_penaltyOf_26 : decode cX9_penaltyOf 26 = .ok (.iconst (-1), 1) := by decide +kernel
theorem dX9_penaltyOf_27 : decode cX9_penaltyOf 27 = .ok (.if_icmp .ne 6, 3) := by decide +kernel
theorem dX9_penaltyOf_30 : decode cX9_penaltyOf 30 = .ok (.goto 74, 3) := by decide +kernel
theorem dX9_penaltyOf_33 : decode cX9_penaltyOf 33 = .ok (.iload_n 3, 1) := by decide +kernel
theorem dX9_penaltyOf_34 : decode cX9_penaltyOf 34 = .ok (.aload_n 0, 1) := by decide +kernel
theorem dX9_penaltyOf_35 : decode cX9_penaltyOf 35 = .ok (.getfield 53, 3) := by decide +kernel
theorem dX9_penaltyOf_38 : decode cX9_penaltyOf 38 = .ok (.iload 5, 2) := by decide +kernel
theorem dX9_penaltyOf_40 : decode cX9_penaltyOf 40 = .ok (.iaload, 1) := by decide +kernel
theorem dX9_penaltyOf_41 : decode cX9_penaltyOf 41 = .ok (.iadd, 1) := by decide +kernel
theorem dX9_penaltyOf_42 : decode cX9_penaltyOf 42 = .ok (.istore_n 3, 1) := by decide +kernel
theorem dX9_penaltyOf_43 : decode cX9_penaltyOf 43 = .ok (.iconst 0, 1) := by decide +kernel
theorem dX9_penaltyOf_44 : decode cX9_penaltyOf 44 = .ok (.istore 6, 2) := by decide +kernel
theorem dX9_penaltyOf_46 : decode cX9_penaltyOf 46 = .ok (.iload 6, 2) := by decide +kernel
theorem dX9_penaltyOf_48 : decode cX9_penaltyOf 48 = .ok (.iload 5, 2) := by decide +kernel
theorem dX9_penaltyOf_50 : decode cX9_penaltyOf 50 = .ok (.if_icmp .ge 54, 3) := by decide +kernel
theorem dX9_penaltyOf_53 : decode cX9_penaltyOf 53 = .ok (.iload_n 3, 1) := by decide +kernel
theorem dX9_penaltyOf_54 : decode cX9_penaltyOf 54 = .ok (.aload_n 0, 1) := by decide +kernel
theorem dX9_penaltyOf_55 : decode cX9_penaltyOf 55 = .ok (.getfield 47, 3) := by decide +kernel
theorem dX9_penaltyOf_58 : decode cX9_penaltyOf 58 = .ok (.iload 6, 2) := by decide +kernel
theorem dX9_penaltyOf_60 : decode cX9_penaltyOf 60 = .ok (.iaload, 1) := by decide +kernel
theorem dX9_penaltyOf_61 : decode cX9_penaltyOf 61 = .ok (.iload_n 1, 1) := by decide +kernel
theorem dX9_penaltyOf_62 : decode cX9_penaltyOf 62 = .ok (.if_icmp .ne 33, 3) := by decide +kernel
theorem dX9_penaltyOf_65 : decode cX9_penaltyOf 65 = .ok (.aload_n 0, 1) := by decide +kernel
theorem dX9_penaltyOf_66 : decode cX9_penaltyOf 66 = .ok (.getfield 50, 3) := by decide +kernel
theorem dX9_penaltyOf_69 : decode cX9_penaltyOf 69 = .ok (.iload 6, 2) := by decide +kernel
theorem dX9_penaltyOf_71 : decode cX9_penaltyOf 71 = .ok (.iaload, 1) := by decide +kernel
theorem dX9_penaltyOf_72 : decode cX9_penaltyOf 72 = .ok (.iload 4, 2) := by decide +kernel
theorem dX9_penaltyOf_74 : decode cX9_penaltyOf 74 = .ok (.if_icmp .ne 21, 3) := by decide +kernel
theorem dX9_penaltyOf_77 : decode cX9_penaltyOf 77 = .ok (.iload_n 2, 1) := by decide +kernel
theorem dX9_penaltyOf_78 : decode cX9_penaltyOf 78 = .ok (.ifCond .eq 12, 3) := by decide +kernel
theorem dX9_penaltyOf_81 : decode cX9_penaltyOf 81 = .ok (.aload_n 0, 1) := by decide +kernel
theorem dX9_penaltyOf_82 : decode cX9_penaltyOf 82 = .ok (.iload 6, 2) := by decide +kernel
theorem dX9_penaltyOf_84 : decode cX9_penaltyOf 84 = .ok (.invokevirtual 209, 3) := by decide +kernel
theorem dX9_penaltyOf_87 : decode cX9_penaltyOf 87 = .ok (.ifCond .ne 8, 3) := by decide +kernel
theorem dX9_penaltyOf_90 : decode cX9_penaltyOf 90 = .ok (.bipush 20, 2) := by decide +kernel
theorem dX9_penaltyOf_92 : decode cX9_penaltyOf 92 = .ok (.goto 4, 3) := by decide +kernel
theorem dX9_penaltyOf_95 : decode cX9_penaltyOf 95 = .ok (.iconst 0, 1) := by decide +kernel
theorem dX9_penaltyOf_96 : decode cX9_penaltyOf 96 = .ok (.iadd, 1) := by decide +kernel
theorem dX9_penaltyOf_97 : decode cX9_penaltyOf 97 = .ok (.istore_n 3, 1) := by decide +kernel
theorem dX9_penaltyOf_98 : decode cX9_penaltyOf 98 = .ok (.iinc 6 1, 3) := by decide +kernel
theorem dX9_penaltyOf_101 : decode cX9_penaltyOf 101 = .ok (.goto (-55), 3) := by decide +kernel
theorem dX9_penaltyOf_104 : decode cX9_penaltyOf 104 = .ok (.iinc 4 1, 3) := by decide +kernel
theorem dX9_penaltyOf_107 : decode cX9_penaltyOf 107 = .ok (.goto (-102), 3) := by decide +kernel
theorem dX9_penaltyOf_110 : decode cX9_penaltyOf 110 = .ok (.iload_n 3, 1) := by decide +kernel
theorem dX9_penaltyOf_111 : decode cX9_penaltyOf 111 = .ok (.ireturn, 1) := by decide +kernel
theorem dX9_latestOf_0 : decode cX9_latestOf 0 = .ok (.iconst 0, 1) := by decide +kernel
theorem dX9_latestOf_1 : decode cX9_latestOf 1 = .ok (.istore_n 3, 1) := by decide +kernel
theorem dX9_latestOf_2 : decode cX9_latestOf 2 = .ok (.iconst 0, 1) := by decide +kernel
theorem dX9_latestOf_3 : decode cX9_latestOf 3 = .ok (.istore 4, 2) := by decide +kernel
theorem dX9_latestOf_5 : decode cX9_latestOf 5 = .ok (.iload 4, 2) := by decide +kernel
theorem dX9_latestOf_7 : decode cX9_latestOf 7 = .ok (.aload_n 0, 1) := by decide +kernel
theorem dX9_latestOf_8 : decode cX9_latestOf 8 = .ok (.getfield 124, 3) := by decide +kernel
theorem dX9_latestOf_11 : decode cX9_latestOf 11 = .ok (.if_icmp .ge 44, 3) := by decide +kernel
theorem dX9_latestOf_14 : decode cX9_latestOf 14 = .ok (.aload_n 0, 1) := by decide +kernel
theorem dX9_latestOf_15 : decode cX9_latestOf 15 = .ok (.iload_n 1, 1) := by decide +kernel
theorem dX9_latestOf_16 : decode cX9_latestOf 16 = .ok (.iload 4, 2) := by decide +kernel
theorem dX9_latestOf_18 : decode cX9_latestOf 18 = .ok (.iload_n 2, 1) := by decide +kernel
theorem dX9_latestOf_19 : decode cX9_latestOf 19 = .ok (.invokevirtual 222, 3) := by decide +kernel
theorem dX9_latestOf_22 : decode cX9_latestOf 22 = .ok (.istore 5, 2) := by decide +kernel
theorem dX9_latestOf_24 : decode cX9_latestOf 24 = .ok (.iload 5, 2) := by decide +kernel
theorem dX9_latestOf_26 : decode cX9_latestOf 26 = .ok (.iconst (-1), 1) := by decide +kernel
theorem dX9_latestOf_27 : decode cX9_latestOf 27 = .ok (.if_icmp .eq 22, 3) := by decide +kernel
theorem dX9_latestOf_30 : decode cX9_latestOf 30 = .ok (.aload_n 0, 1) := by decide +kernel
theorem dX9_latestOf_31 : decode cX9_latestOf 31 = .ok (.getfield 53, 3) := by decide +kernel
theorem dX9_latestOf_34 : decode cX9_latestOf 34 = .ok (.iload 5, 2) := by decide +kernel
theorem dX9_latestOf_36 : decode cX9_latestOf 36 = .ok (.iaload, 1) := by decide +kernel
theorem dX9_latestOf_37 : decode cX9_latestOf 37 = .ok (.iload_n 3, 1) := by decide +kernel
theorem dX9_latestOf_38 : decode cX9_latestOf 38 = .ok (.if_icmp .le 11, 3) := by decide +kernel
theorem dX9_latestOf_41 : decode cX9_latestOf 41 = .ok (.aload_n 0, 1) := by decide +kernel
theorem dX9_latestOf_42 : decode cX9_latestOf 42 = .ok (.getfield 53, 3) := by decide +kernel
theorem dX9_latestOf_45 : decode cX9_latestOf 45 = .ok (.iload 5, 2) := by decide +kernel
theorem dX9_latestOf_47 : decode cX9_latestOf 47 = .ok (.iaload, 1) := by decide +kernel
theorem dX9_latestOf_48 : decode cX9_latestOf 48 = .ok (.istore_n 3, 1) := by decide +kernel
theorem dX9_latestOf_49 : decode cX9_latestOf 49 = .ok (.iinc 4 1, 3) := by decide +kernel
theorem dX9_latestOf_52 : decode cX9_latestOf 52 = .ok (.goto (-47), 3) := by decide +kernel
theorem dX9_latestOf_55 : decode cX9_latestOf 55 = .ok (.iload_n 3, 1) := by decide +kernel
theorem dX9_latestOf_56 : decode cX9_latestOf 56 = .ok (.ireturn, 1) := by decide +kernel
theorem dX9_isAhead_0 : decode cX9_isAhead 0 = .ok (.aload_n 0, 1) := by decide +kernel
theorem dX9_isAhead_1 : decode cX9_isAhead 1 = .ok (.iload_n 2, 1) := by decide +kernel
theorem dX9_isAhead_2 : decode cX9_isAhead 2 = .ok (.iload_n 3, 1) := by decide +kernel
theorem dX9_isAhead_3 : decode cX9_isAhead 3 = .ok (.invokevirtual 226, 3) := by decide +kernel
theorem dX9_isAhead_6 : decode cX9_isAhead 6 = .ok (.aload_n 0, 1) := by decide +kernel
theorem dX9_isAhead_7 : decode cX9_isAhead 7 = .ok (.iload_n 1, 1) := by decide +kernel
theorem dX9_isAhead_8 : decode cX9_isAhead 8 = .ok (.iload_n 3, 1) := by decide +kernel
theorem dX9_isAhead_9 : decode cX9_isAhead 9 = .ok (.invokevirtual 226, 3) := by decide +kernel
theorem dX9_isAhead_12 : decode cX9_isAhead 12 = .ok (.isub, 1) := by decide +kernel
theorem dX9_isAhead_13 : decode cX9_isAhead 13 = .ok (.istore 4, 2) := by decide +kernel
theorem dX9_isAhead_15 : decode cX9_isAhead 15 = .ok (.iload 4, 2) := by decide +kernel
theorem dX9_isAhead_17 : decode cX9_isAhead 17 = .ok (.ifCond .ne 18, 3) := by decide +kernel
theorem dX9_isAhead_20 : decode cX9_isAhead 20 = .ok (.aload_n 0, 1) := by decide +kernel
theorem dX9_isAhead_21 : decode cX9_isAhead 21 = .ok (.iload_n 1, 1) := by decide +kernel
theorem dX9_isAhead_22 : decode cX9_isAhead 22 = .ok (.iload_n 3, 1) := by decide +kernel
theorem dX9_isAhead_23 : decode cX9_isAhead 23 = .ok (.invokevirtual 230, 3) := by decide +kernel
theorem dX9_isAhead_26 : decode cX9_isAhead 26 = .ok (.aload_n 0, 1) := by decide +kernel
theorem dX9_isAhead_27 : decode cX9_isAhead 27 = .ok (.iload_n 2, 1) := by decide +kernel
theorem dX9_isAhead_28 : decode cX9_isAhead 28 = .ok (.iload_n 3, 1) := by decide +kernel
theorem dX9_isAhead_29 : decode cX9_isAhead 29 = .ok (.invokevirtual 230, 3) := by decide +kernel
theorem dX9_isAhead_32 : decode cX9_isAhead 32 = .ok (.isub, 1) := by decide +kernel
theorem dX9_isAhead_33 : decode cX9_isAhead 33 = .ok (.istore 4, 2) := by decide +kernel
theorem dX9_isAhead_35 : decode cX9_isAhead 35 = .ok (.iload 4, 2) := by decide +kernel
theorem dX9_isAhead_37 : decode cX9_isAhead 37 = .ok (.ifCond .ne 18, 3) := by decide +kernel
theorem dX9_isAhead_40 : decode cX9_isAhead 40 = .ok (.aload_n 0, 1) := by decide +kernel
theorem dX9_isAhead_41 : decode cX9_isAhead 41 = .ok (.iload_n 1, 1) := by decide +kernel
theorem dX9_isAhead_42 : decode cX9_isAhead 42 = .ok (.iload_n 3, 1) := by decide +kernel
theorem dX9_isAhead_43 : decode cX9_isAhead 43 = .ok (.invokevirtual 233, 3) := by decide +kernel
theorem dX9_isAhead_46 : decode cX9_isAhead 46 = .ok (.aload_n 0, 1) := by decide +kernel
theorem dX9_isAhead_47 : decode cX9_isAhead 47 = .ok (.iload_n 2, 1) := by decide +kernel
theorem dX9_isAhead_48 : decode cX9_isAhead 48 = .ok (.iload_n 3, 1) := by decide +kernel
theorem dX9_isAhead_49 : decode cX9_isAhead 49 = .ok (.invokevirtual 233, 3) := by decide +kernel
theorem dX9_isAhead_52 : decode cX9_isAhead 52 = .ok (.isub, 1) := by decide +kernel
theorem dX9_isAhead_53 : decode cX9_isAhead 53 = .ok (.istore 4, 2) := by decide +kernel
theorem dX9_isAhead_55 : decode cX9_isAhead 55 = .ok (.iload 4, 2) := by decide +kernel
theorem dX9_isAhead_57 : decode cX9_isAhead 57 = .ok (.ifCond .ne 16, 3) := by decide +kernel
theorem dX9_isAhead_60 : decode cX9_isAhead 60 = .ok (.iload_n 1, 1) := by decide +kernel
theorem dX9_isAhead_61 : decode cX9_isAhead 61 = .ok (.iload_n 2, 1) := by decide +kernel
theorem dX9_isAhead_62 : decode cX9_isAhead 62 = .ok (.if_icmp .ge 7, 3) := by decide +kernel
theorem dX9_isAhead_65 : decode cX9_isAhead 65 = .ok (.iconst 1, 1) := by decide +kernel
theorem dX9_isAhead_66 : decode cX9_isAhead 66 = .ok (.goto 17, 3) := by decide +kernel
theorem dX9_isAhead_69 : decode cX9_isAhead 69 = .ok (.iconst 0, 1) := by decide +kernel
theorem dX9_isAhead_70 : decode cX9_isAhead 70 = .ok (.goto 13, 3) := by decide +kernel
theorem dX9_isAhead_73 : decode cX9_isAhead 73 = .ok (.iload 4, 2) := by decide +kernel
theorem dX9_isAhead_75 : decode cX9_isAhead 75 = .ok (.ifCond .ge 7, 3) := by decide +kernel
theorem dX9_isAhead_78 : decode cX9_isAhead 78 = .ok (.iconst 1, 1) := by decide +kernel
theorem dX9_isAhead_79 : decode cX9_isAhead 79 = .ok (.goto 4, 3) := by decide +kernel
theorem dX9_isAhead_82 : decode cX9_isAhead 82 = .ok (.iconst 0, 1) := by decide +kernel
theorem dX9_isAhead_83 : decode cX9_isAhead 83 = .ok (.ireturn, 1) := by decide +kernel
theorem dX9_rankOf_0 : decode cX9_rankOf 0 = .ok (.iconst 1, 1) := by decide +kernel
theorem dX9_rankOf_1 : decode cX9_rankOf 1 = .ok (.istore_n 3, 1) := by decide +kernel
theorem dX9_rankOf_2 : decode cX9_rankOf 2 = .ok (.iconst 0, 1) := by decide +kernel
theorem dX9_rankOf_3 : decode cX9_rankOf 3 = .ok (.istore 4, 2) := by decide +kernel
theorem dX9_rankOf_5 : decode cX9_rankOf 5 = .ok (.iload 4, 2) := by decide +kernel
theorem dX9_rankOf_7 : decode cX9_rankOf 7 = .ok (.aload_n 0, 1) := by decide +kernel
theorem dX9_rankOf_8 : decode cX9_rankOf 8 = .ok (.getfield 127, 3) := by decide +kernel
theorem dX9_rankOf_11 : decode cX9_rankOf 11 = .ok (.if_icmp .ge 34, 3) := by decide +kernel
theorem dX9_rankOf_14 : decode cX9_rankOf 14 = .ok (.iload_n 3, 1) := by decide +kernel
theorem dX9_rankOf_15 : decode cX9_rankOf 15 = .ok (.iload 4, 2) := by decide +kernel
theorem dX9_rankOf_17 : decode cX9_rankOf 17 = .ok (.iload_n 1, 1) := by decide +kernel
theorem dX9_rankOf_18 : decode cX9_rankOf 18 = .ok (.if_icmp .eq 18, 3) := by decide +kernel
theorem dX9_rankOf_21 : decode cX9_rankOf 21 = .ok (.aload_n 0, 1) := by decide +kernel
theorem dX9_rankOf_22 : decode cX9_rankOf 22 = .ok (.iload 4, 2) := by decide +kernel
theorem dX9_rankOf_24 : decode cX9_rankOf 24 = .ok (.iload_n 1, 1) := by decide +kernel
theorem dX9_rankOf_25 : decode cX9_rankOf 25 = .ok (.iload_n 2, 1) := by decide +kernel
theorem dX9_rankOf_26 : decode cX9_rankOf 26 = .ok (.invokevirtual 218, 3) := by decide +kernel
theorem dX9_rankOf_29 : decode cX9_rankOf 29 = .ok (.ifCond .eq 7, 3) := by decide +kernel
theorem dX9_rankOf_32 : decode cX9_rankOf 32 = .ok (.iconst 1, 1) := by decide +kernel
theorem dX9_rankOf_33 : decode cX9_rankOf 33 = .ok (.goto 4, 3) := by decide +kernel
theorem dX9_rankOf_36 : decode cX9_rankOf 36 = .ok (.iconst 0, 1) := by decide +kernel
theorem dX9_rankOf_37 : decode cX9_rankOf 37 = .ok (.iadd, 1) := by decide +kernel
theorem dX9_rankOf_38 : decode cX9_rankOf 38 = .ok (.istore_n 3, 1) := by decide +kernel
theorem dX9_rankOf_39 : decode cX9_rankOf 39 = .ok (.iinc 4 1, 3) := by decide +kernel
theorem dX9_rankOf_42 : decode cX9_rankOf 42 = .ok (.goto (-37), 3) := by decide +kernel
theorem dX9_rankOf_45 : decode cX9_rankOf 45 = .ok (.iload_n 3, 1) := by decide +kernel
theorem dX9_rankOf_46 : decode cX9_rankOf 46 = .ok (.ireturn, 1) := by decide +kernel
theorem dX9_solved_0 : decode cX9_solved 0 = .ok (.aload_n 0, 1) := by decide +kernel
theorem dX9_solved_1 : decode cX9_solved 1 = .ok (.aload_n 0, 1) := by decide +kernel
theorem dX9_solved_2 : decode cX9_solved 2 = .ok (.iload_n 1, 1) := by decide +kernel
theorem dX9_solved_3 : decode cX9_solved 3 = .ok (.invokevirtual 190, 3) := by decide +kernel
theorem dX9_solved_6 : decode cX9_solved 6 = .ok (.ifCond .eq 7, 3) := by decide +kernel
theorem dX9_solved_9 : decode cX9_solved 9 = .ok (.iconst 1, 1) := by decide +kernel
theorem dX9_solved_10 : decode cX9_solved 10 = .ok (.goto 4, 3) := by decide +kernel
theorem dX9_solved_13 : decode cX9_solved 13 = .ok (.iconst 0, 1) := by decide +kernel
theorem dX9_solved_14 : decode cX9_solved 14 = .ok (.invokevirtual 114, 3) := by decide +kernel
theorem dX9_solved_17 : decode cX9_solved 17 = .ok (.ifCond .eq 7, 3) := by decide +kernel
theorem dX9_solved_20 : decode cX9_solved 20 = .ok (.iconst 0, 1) := by decide +kernel
theorem dX9_solved_21 : decode cX9_solved 21 = .ok (.goto 9, 3) := by decide +kernel
theorem dX9_solved_24 : decode cX9_solved 24 = .ok (.aload_n 0, 1) := by decide +kernel
theorem dX9_solved_25 : decode cX9_solved 25 = .ok (.iload_n 1, 1) := by decide +kernel
theorem dX9_solved_26 : decode cX9_solved 26 = .ok (.iload_n 2, 1) := by decide +kernel
theorem dX9_solved_27 : decode cX9_solved 27 = .ok (.invokevirtual 226, 3) := by decide +kernel
theorem dX9_solved_30 : decode cX9_solved 30 = .ok (.ireturn, 1) := by decide +kernel
theorem dX9_penalty_0 : decode cX9_penalty 0 = .ok (.aload_n 0, 1) := by decide +kernel
theorem dX9_penalty_1 : decode cX9_penalty 1 = .ok (.aload_n 0, 1) := by decide +kernel
theorem dX9_penalty_2 : decode cX9_penalty 2 = .ok (.iload_n 1, 1) := by decide +kernel
theorem dX9_penalty_3 : decode cX9_penalty 3 = .ok (.invokevirtual 190, 3) := by decide +kernel
theorem dX9_penalty_6 : decode cX9_penalty 6 = .ok (.ifCond .eq 7, 3) := by decide +kernel
theorem dX9_penalty_9 : decode cX9_penalty 9 = .ok (.iconst 1, 1) := by decide +kernel
theorem dX9_penalty_10 : decode cX9_penalty 10 = .ok (.goto 4, 3) := by decide +kernel
theorem dX9_penalty_13 : decode cX9_penalty 13 = .ok (.iconst 0, 1) := by decide +kernel
theorem dX9_penalty_14 : decode cX9_penalty 14 = .ok (.invokevirtual 114, 3) := by decide +kernel
theorem dX9_penalty_17 : decode cX9_penalty 17 = .ok (.ifCond .eq 7, 3) := by decide +kernel
theorem dX9_penalty_20 : decode cX9_penalty 20 = .ok (.iconst 0, 1) := by decide +kernel
theorem dX9_penalty_21 : decode cX9_penalty 21 = .ok (.goto 9, 3) := by decide +kernel
theorem dX9_penalty_24 : decode cX9_penalty 24 = .ok (.aload_n 0, 1) := by decide +kernel
theorem dX9_penalty_25 : decode cX9_penalty 25 = .ok (.iload_n 1, 1) := by decide +kernel
theorem dX9_penalty_26 : decode cX9_penalty 26 = .ok (.iload_n 2, 1) := by decide +kernel
theorem dX9_penalty_27 : decode cX9_penalty 27 = .ok (.invokevirtual 230, 3) := by decide +kernel
theorem dX9_penalty_30 : decode cX9_penalty 30 = .ok (.ireturn, 1) := by decide +kernel
theorem dX9_rank_0 : decode cX9_rank 0 = .ok (.aload_n 0, 1) := by decide +kernel
theorem dX9_rank_1 : decode cX9_rank 1 = .ok (.aload_n 0, 1) := by decide +kernel
theorem dX9_rank_2 : decode cX9_rank 2 = .ok (.iload_n 1, 1) := by decide +kernel
theorem dX9_rank_3 : decode cX9_rank 3 = .ok (.invokevirtual 190, 3) := by decide +kernel
theorem dX9_rank_6 : decode cX9_rank 6 = .ok (.ifCond .eq 7, 3) := by decide +kernel
theorem dX9_rank_9 : decode cX9_rank 9 = .ok (.iconst 1, 1) := by decide +kernel
theorem dX9_rank_10 : decode cX9_rank 10 = .ok (.goto 4, 3) := by decide +kernel
theorem dX9_rank_13 : decode cX9_rank 13 = .ok (.iconst 0, 1) := by decide +kernel
theorem dX9_rank_14 : decode cX9_rank 14 = .ok (.invokevirtual 114, 3) := by decide +kernel
theorem dX9_rank_17 : decode cX9_rank 17 = .ok (.ifCond .eq 7, 3) := by decide +kernel
theorem dX9_rank_20 : decode cX9_rank 20 = .ok (.iconst 0, 1) := by decide +kernel
theorem dX9_rank_21 : decode cX9_rank 21 = .ok (.goto 9, 3) := by decide +kernel
theorem dX9_rank_24 : decode cX9_rank 24 = .ok (.aload_n 0, 1) := by decide +kernel
theorem dX9_rank_25 : decode cX9_rank 25 = .ok (.iload_n 1, 1) := by decide +kernel
theorem dX9_rank_26 : decode cX9_rank 26 = .ok (.iload_n 2, 1) := by decide +kernel
theorem dX9_rank_27 : decode cX9_rank 27 = .ok (.invokevirtual 236, 3) := by decide +kernel
theorem dX9_rank_30 : decode cX9_rank 30 = .ok (.ireturn, 1) := by decide +kernel
theorem dX9_ranked_0 : decode cX9_ranked 0 = .ok (.iconst (-1), 1) := by decide +kernel
theorem dX9_ranked_1 : decode cX9_ranked 1 = .ok (.istore_n 3, 1) := by decide +kernel
theorem dX9_ranked_2 : decode cX9_ranked 2 = .ok (.iconst 0, 1) := by decide +kernel
theorem dX9_ranked_3 : decode cX9_ranked 3 = .ok (.istore 4, 2) := by decide +kernel
theorem dX9_ranked_5 : decode cX9_ranked 5 = .ok (.iload 4, 2) := by decide +kernel
theorem dX9_ranked_7 : decode cX9_ranked 7 = .ok (.aload_n 0, 1) := by decide +kernel
theorem dX9_ranked_8 : decode cX9_ranked 8 = .ok (.getfield 127, 3) := by decide +kernel
theorem dX9_ranked_11 : decode cX9_ranked 11 = .ok (.if_icmp .ge 27, 3) := by decide +kernel
theorem dX9_ranked_14 : decode cX9_ranked 14 = .ok (.aload_n 0, 1) := by decide +kernel
theorem dX9_ranked_15 : decode cX9_ranked 15 = .ok (.iload 4, 2) := by decide +kernel
theorem dX9_ranked_17 : decode cX9_ranked 17 = .ok (.iload_n 2, 1) := by decide +kernel
theorem dX9_ranked_18 : decode cX9_ranked 18 = .ok (.invokevirtual 236, 3) := by decide +kernel
theorem dX9_ranked_21 : decode cX9_ranked 21 = .ok (.iload_n 1, 1) := by decide +kernel
theorem dX9_ranked_22 : decode cX9_ranked 22 = .ok (.if_icmp .ne 8, 3) := by decide +kernel
theorem dX9_ranked_25 : decode cX9_ranked 25 = .ok (.iload 4, 2) := by decide +kernel
theorem dX9_ranked_27 : decode cX9_ranked 27 = .ok (.goto 4, 3) := by decide +kernel
theorem dX9_ranked_30 : decode cX9_ranked 30 = .ok (.iload_n 3, 1) := by decide +kernel
theorem dX9_ranked_31 : decode cX9_ranked 31 = .ok (.istore_n 3, 1) := by decide +kernel
theorem dX9_ranked_32 : decode cX9_ranked 32 = .ok (.iinc 4 1, 3) := by decide +kernel
theorem dX9_ranked_35 : decode cX9_ranked 35 = .ok (.goto (-30), 3) := by decide +kernel
theorem dX9_ranked_38 : decode cX9_ranked 38 = .ok (.aload_n 0, 1) := by decide +kernel
theorem dX9_ranked_39 : decode cX9_ranked 39 = .ok (.iload_n 3, 1) := by decide +kernel
theorem dX9_ranked_40 : decode cX9_ranked 40 = .ok (.iconst (-1), 1) := by decide +kernel
theorem dX9_ranked_41 : decode cX9_ranked 41 = .ok (.if_icmp .ne 7, 3) := by decide +kernel
theorem dX9_ranked_44 : decode cX9_ranked 44 = .ok (.iconst 1, 1) := by decide +kernel
theorem dX9_ranked_45 : decode cX9_ranked 45 = .ok (.goto 4, 3) := by decide +kernel
theorem dX9_ranked_48 : decode cX9_ranked 48 = .ok (.iconst 0, 1) := by decide +kernel
theorem dX9_ranked_49 : decode cX9_ranked 49 = .ok (.invokevirtual 114, 3) := by decide +kernel
theorem dX9_ranked_52 : decode cX9_ranked 52 = .ok (.ifCond .eq 7, 3) := by decide +kernel
theorem dX9_ranked_55 : decode cX9_ranked 55 = .ok (.iconst 0, 1) := by decide +kernel
theorem dX9_ranked_56 : decode cX9_ranked 56 = .ok (.goto 4, 3) := by decide +kernel
theorem dX9_ranked_59 : decode cX9_ranked 59 = .ok (.iload_n 3, 1) := by decide +kernel
theorem dX9_ranked_60 : decode cX9_ranked 60 = .ok (.ireturn, 1) := by decide +kernel
theorem dX9_acceptedShare_0 : decode cX9_acceptedShare 0 = .ok (.iconst 0, 1) := by decide +kernel
theorem dX9_acceptedShare_1 : decode cX9_acceptedShare 1 = .ok (.istore_n 1, 1) := by decide +kernel
theorem dX9_acceptedShare_2 : decode cX9_acceptedShare 2 = .ok (.iconst 0, 1) := by decide +kernel
theorem dX9_acceptedShare_3 : decode cX9_acceptedShare 3 = .ok (.istore_n 2, 1) := by decide +kernel
theorem dX9_acceptedShare_4 : decode cX9_acceptedShare 4 = .ok (.iload_n 2, 1) := by decide +kernel
theorem dX9_acceptedShare_5 : decode cX9_acceptedShare 5 = .ok (.aload_n 0, 1) := by decide +kernel
theorem dX9_acceptedShare_6 : decode cX9_acceptedShare 6 = .ok (.getfield 130, 3) := by decide +kernel
theorem dX9_acceptedShare_9 : decode cX9_acceptedShare 9 = .ok (.if_icmp .ge 27, 3) := by decide +kernel
theorem dX9_acceptedShare_12 : decode cX9_acceptedShare 12 = .ok (.iload_n 1, 1) := by decide +kernel
theorem dX9_acceptedShare_13 : decode cX9_acceptedShare 13 = .ok (.aload_n 0, 1) := by decide +kernel
theorem dX9_acceptedShare_14 : decode cX9_acceptedShare 14 = .ok (.iload_n 2, 1) := by decide +kernel
theorem dX9_acceptedShare_15 : decode cX9_acceptedShare 15 = .ok (.invokevirtual 160, 3) := by decide +kernel
theorem dX9_acceptedShare_18 : decode cX9_acceptedShare 18 = .ok (.bipush 97, 2) := by decide +kernel
theorem dX9_acceptedShare_20 : decode cX9_acceptedShare 20 = .ok (.if_icmp .ne 7, 3) := by decide +kernel
theorem dX9_acceptedShare_23 : decode cX9_acceptedShare 23 = .ok (.iconst 1, 1) := by decide +kernel
theorem dX9_acceptedShare_24 : decode cX9_acceptedShare 24 = .ok (.goto 4, 3) := by decide +kernel
theorem dX9_acceptedShare_27 : decode cX9_acceptedShare 27 = .ok (.iconst 0, 1) := by decide +kernel
theorem dX9_acceptedShare_28 : decode cX9_acceptedShare 28 = .ok (.iadd, 1) := by decide +kernel
theorem dX9_acceptedShare_29 : decode cX9_acceptedShare 29 = .ok (.istore_n 1, 1) := by decide +kernel
theorem dX9_acceptedShare_30 : decode cX9_acceptedShare 30 = .ok (.iinc 2 1, 3) := by decide +kernel
theorem dX9_acceptedShare_33 : decode cX9_acceptedShare 33 = .ok (.goto (-29), 3) := by decide +kernel
theorem dX9_acceptedShare_36 : decode cX9_acceptedShare 36 = .ok (.aload_n 0, 1) := by decide +kernel
theorem dX9_acceptedShare_37 : decode cX9_acceptedShare 37 = .ok (.aload_n 0, 1) := by decide +kernel
theorem dX9_acceptedShare_38 : decode cX9_acceptedShare 38 = .ok (.getfield 130, 3) := by decide +kernel
theorem dX9_acceptedShare_41 : decode cX9_acceptedShare 41 = .ok (.ifCond .ne 7, 3) := by decide +kernel
theorem dX9_acceptedShare_44 : decode cX9_acceptedShare 44 = .ok (.iconst 1, 1) := by decide +kernel
theorem dX9_acceptedShare_45 : decode cX9_acceptedShare 45 = .ok (.goto 4, 3) := by decide +kernel
theorem dX9_acceptedShare_48 : decode cX9_acceptedShare 48 = .ok (.iconst 0, 1) := by decide +kernel
theorem dX9_acceptedShare_49 : decode cX9_acceptedShare 49 = .ok (.invokevirtual 114, 3) := by decide +kernel
theorem dX9_acceptedShare_52 : decode cX9_acceptedShare 52 = .ok (.ifCond .eq 7, 3) := by decide +kernel
theorem dX9_acceptedShare_55 : decode cX9_acceptedShare 55 = .ok (.fconst 0, 1) := by decide +kernel
theorem dX9_acceptedShare_56 : decode cX9_acceptedShare 56 = .ok (.goto 11, 3) := by decide +kernel
theorem dX9_acceptedShare_59 : decode cX9_acceptedShare 59 = .ok (.iload_n 1, 1) := by decide +kernel
theorem dX9_acceptedShare_60 : decode cX9_acceptedShare 60 = .ok (.i2f, 1) := by decide +kernel
theorem dX9_acceptedShare_61 : decode cX9_acceptedShare 61 = .ok (.aload_n 0, 1) := by decide +kernel
theorem dX9_acceptedShare_62 : decode cX9_acceptedShare 62 = .ok (.getfield 130, 3) := by decide +kernel
theorem dX9_acceptedShare_65 : decode cX9_acceptedShare 65 = .ok (.i2f, 1) := by decide +kernel
theorem dX9_acceptedShare_66 : decode cX9_acceptedShare 66 = .ok (.fdiv, 1) := by decide +kernel
theorem dX9_acceptedShare_67 : decode cX9_acceptedShare 67 = .ok (.freturn, 1) := by decide +kernel
theorem dX9_meanSteps_0 : decode cX9_meanSteps 0 = .ok (.iconst 0, 1) := by decide +kernel
theorem dX9_meanSteps_1 : decode cX9_meanSteps 1 = .ok (.istore_n 1, 1) := by decide +kernel
theorem dX9_meanSteps_2 : decode cX9_meanSteps 2 = .ok (.iconst 0, 1) := by decide +kernel
theorem dX9_meanSteps_3 : decode cX9_meanSteps 3 = .ok (.istore_n 2, 1) := by decide +kernel
theorem dX9_meanSteps_4 : decode cX9_meanSteps 4 = .ok (.iconst 0, 1) := by decide +kernel
theorem dX9_meanSteps_5 : decode cX9_meanSteps 5 = .ok (.istore_n 3, 1) := by decide +kernel
theorem dX9_meanSteps_6 : decode cX9_meanSteps 6 = .ok (.iload_n 3, 1) := by decide +kernel
theorem dX9_meanSteps_7 : decode cX9_meanSteps 7 = .ok (.aload_n 0, 1) := by decide +kernel
theorem dX9_meanSteps_8 : decode cX9_meanSteps 8 = .ok (.getfield 130, 3) := by decide +kernel
theorem dX9_meanSteps_11 : decode cX9_meanSteps 11 = .ok (.if_icmp .ge 52, 3) := by decide +kernel
theorem dX9_meanSteps_14 : decode cX9_meanSteps 14 = .ok (.iconst 0, 1) := by decide +kernel
theorem dX9_meanSteps_15 : decode cX9_meanSteps 15 = .ok (.istore 4, 2) := by decide +kernel
theorem dX9_meanSteps_17 : decode cX9_meanSteps 17 = .ok (.iload 4, 2) := by decide +kernel
theorem dX9_meanSteps_19 : decode cX9_meanSteps 19 = .ok (.aload_n 0, 1) := by decide +kernel
theorem dX9_meanSteps_20 : decode cX9_meanSteps 20 = .ok (.getfield 32, 3) := by decide +kernel
theorem dX9_meanSteps_23 : decode cX9_meanSteps 23 = .ok (.aload_n 0, 1) := by decide +kernel
theorem dX9_meanSteps_24 : decode cX9_meanSteps 24 = .ok (.getfield 50, 3) := by decide +kernel
theorem dX9_meanSteps_27 : decode cX9_meanSteps 27 = .ok (.iload_n 3, 1) := by decide +kernel
theorem dX9_meanSteps_28 : decode cX9_meanSteps 28 = .ok (.iaload, 1) := by decide +kernel
theorem dX9_meanSteps_29 : decode cX9_meanSteps 29 = .ok (.iaload, 1) := by decide +kernel
theorem dX9_meanSteps_30 : decode cX9_meanSteps 30 = .ok (.if_icmp .ge 27, 3) := by decide +kernel
theorem dX9_meanSteps_33 : decode cX9_meanSteps 33 = .ok (.iinc 1 1, 3) := by decide +kernel
theorem dX9_meanSteps_36 : decode cX9_meanSteps 36 = .ok (.iload_n 2, 1) := by decide +kernel
theorem dX9_meanSteps_37 : decode cX9_meanSteps 37 = .ok (.aload_n 0, 1) := by decide +kernel
theorem dX9_meanSteps_38 : decode cX9_meanSteps 38 = .ok (.getfield 71, 3) := by decide +kernel
theorem dX9_meanSteps_41 : decode cX9_meanSteps 41 = .ok (.bipush 6, 2) := by decide +kernel
theorem dX9_meanSteps_43 : decode cX9_meanSteps 43 = .ok (.iload_n 3, 1) := by decide +kernel
theorem dX9_meanSteps_44 : decode cX9_meanSteps 44 = .ok (.imul, 1) := by decide +kernel
theorem dX9_meanSteps_45 : decode cX9_meanSteps 45 = .ok (.iload 4, 2) := by decide +kernel
theorem dX9_meanSteps_47 : decode cX9_meanSteps 47 = .ok (.iadd, 1) := by decide +kernel
theorem dX9_meanSteps_48 : decode cX9_meanSteps 48 = .ok (.iaload, 1) := by decide +kernel
theorem dX9_meanSteps_49 : decode cX9_meanSteps 49 = .ok (.iadd, 1) := by decide +kernel
theorem dX9_meanSteps_50 : decode cX9_meanSteps 50 = .ok (.istore_n 2, 1) := by decide +kernel
theorem dX9_meanSteps_51 : decode cX9_meanSteps 51 = .ok (.iinc 4 1, 3) := by decide +kernel
theorem dX9_meanSteps_54 : decode cX9_meanSteps 54 = .ok (.goto (-37), 3) := by decide +kernel
theorem dX9_meanSteps_57 : decode cX9_meanSteps 57 = .ok (.iinc 3 1, 3) := by decide +kernel
theorem dX9_meanSteps_60 : decode cX9_meanSteps 60 = .ok (.goto (-54), 3) := by decide +kernel
theorem dX9_meanSteps_63 : decode cX9_meanSteps 63 = .ok (.aload_n 0, 1) := by decide +kernel
theorem dX9_meanSteps_64 : decode cX9_meanSteps 64 = .ok (.iload_n 1, 1) := by decide +kernel
theorem dX9_meanSteps_65 : decode cX9_meanSteps 65 = .ok (.ifCond .ne 7, 3) := by decide +kernel
theorem dX9_meanSteps_68 : decode cX9_meanSteps 68 = .ok (.iconst 1, 1) := by decide +kernel
theorem dX9_meanSteps_69 : decode cX9_meanSteps 69 = .ok (.goto 4, 3) := by decide +kernel
theorem dX9_meanSteps_72 : decode cX9_meanSteps 72 = .ok (.iconst 0, 1) := by decide +kernel
theorem dX9_meanSteps_73 : decode cX9_meanSteps 73 = .ok (.invokevirtual 114, 3) := by decide +kernel
theorem dX9_meanSteps_76 : decode cX9_meanSteps 76 = .ok (.ifCond .eq 7, 3) := by decide +kernel
theorem dX9_meanSteps_79 : decode cX9_meanSteps 79 = .ok (.dconst 0, 1) := by decide +kernel
theorem dX9_meanSteps_80 : decode cX9_meanSteps 80 = .ok (.goto 8, 3) := by decide +kernel
theorem dX9_meanSteps_83 : decode cX9_meanSteps 83 = .ok (.iload_n 2, 1) := by decide +kernel
theorem dX9_meanSteps_84 : decode cX9_meanSteps 84 = .ok (.i2d, 1) := by decide +kernel
theorem dX9_meanSteps_85 : decode cX9_meanSteps 85 = .ok (.iload_n 1, 1) := by decide +kernel
theorem dX9_meanSteps_86 : decode cX9_meanSteps 86 = .ok (.i2d, 1) := by decide +kernel
theorem dX9_meanSteps_87 : decode cX9_meanSteps 87 = .ok (.ddiv, 1) := by decide +kernel
theorem dX9_meanSteps_88 : decode cX9_meanSteps 88 = .ok (.dreturn, 1) := by decide +kernel
theorem dX9_checksum_0 : decode cX9_checksum 0 = .ok (.aload_n 0, 1) := by decide +kernel
theorem dX9_checksum_1 : decode cX9_checksum 1 = .ok (.iconst 0, 1) := by decide +kernel
theorem dX9_checksum_2 : decode cX9_checksum 2 = .ok (.putfield 100, 3) := by decide +kernel
theorem dX9_checksum_5 : decode cX9_checksum 5 = .ok (.ldc2_w 239, 3) := by decide +kernel
theorem dX9_checksum_8 : decode cX9_checksum 8 = .ok (.lstore_n 1, 1) := by decide +kernel
theorem dX9_checksum_9 : decode cX9_checksum 9 = .ok (.iconst 0, 1) := by decide +kernel
theorem dX9_checksum_10 : decode cX9_checksum 10 = .ok (.istore_n 3, 1) := by decide +kernel
theorem dX9_checksum_11 : decode cX9_checksum 11 = .ok (.iload_n 3, 1) := by decide +kernel
theorem dX9_checksum_12 : decode cX9_checksum 12 = .ok (.aload_n 0, 1) := by decide +kernel
theorem dX9_checksum_13 : decode cX9_checksum 13 = .ok (.getfield 130, 3) := by decide +kernel
theorem dX9_checksum_16 : decode cX9_checksum 16 = .ok (.if_icmp .ge 96, 3) := by decide +kernel
theorem dX9_checksum_19 : decode cX9_checksum 19 = .ok (.iconst 0, 1) := by decide +kernel
theorem dX9_checksum_20 : decode cX9_checksum 20 = .ok (.istore 4, 2) := by decide +kernel
theorem dX9_checksum_22 : decode cX9_checksum 22 = .ok (.iload 4, 2) := by decide +kernel
theorem dX9_checksum_24 : decode cX9_checksum 24 = .ok (.aload_n 0, 1) := by decide +kernel
theorem dX9_checksum_25 : decode cX9_checksum 25 = .ok (.getfield 32, 3) := by decide +kernel
theorem dX9_checksum_28 : decode cX9_checksum 28 = .ok (.aload_n 0, 1) := by decide +kernel
theorem dX9_checksum_29 : decode cX9_checksum 29 = .ok (.getfield 50, 3) := by decide +kernel
theorem dX9_checksum_32 : decode cX9_checksum 32 = .ok (.iload_n 3, 1) := by decide +kernel
theorem dX9_checksum_33 : decode cX9_checksum 33 = .ok (.iaload, 1) := by decide +kernel
theorem dX9_checksum_34 : decode cX9_checksum 34 = .ok (.iaload, 1) := by decide +kernel
theorem dX9_checksum_35 : decode cX9_checksum 35 = .ok (.if_icmp .ge 71, 3) := by decide +kernel
theorem dX9_checksum_38 : decode cX9_checksum 38 = .ok (.iconst 0, 1) := by decide +kernel
theorem dX9_checksum_39 : decode cX9_checksum 39 = .ok (.istore 5, 2) := by decide +kernel
theorem dX9_checksum_41 : decode cX9_checksum 41 = .ok (.iload 5, 2) := by decide +kernel
theorem dX9_checksum_43 : decode cX9_checksum 43 = .ok (.aload_n 0, 1) := by decide +kernel
theorem dX9_checksum_44 : decode cX9_checksum 44 = .ok (.getfield 77, 3) := by decide +kernel
theorem dX9_checksum_47 : decode cX9_checksum 47 = .ok (.bipush 6, 2) := by decide +kernel
theorem dX9_checksum_49 : decode cX9_checksum 49 = .ok (.iload_n 3, 1) := by decide +kernel
theorem dX9_checksum_50 : decode cX9_checksum 50 = .ok (.imul, 1) := by decide +kernel
theorem dX9_checksum_51 : decode cX9_checksum 51 = .ok (.iload 4, 2) := by decide +kernel
theorem dX9_checksum_53 : decode cX9_checksum 53 = .ok (.iadd, 1) := by decide +kernel
theorem dX9_checksum_54 : decode cX9_checksum 54 = .ok (.iaload, 1) := by decide +kernel
theorem dX9_checksum_55 : decode cX9_checksum 55 = .ok (.if_icmp .ge 35, 3) := by decide +kernel
theorem dX9_checksum_58 : decode cX9_checksum 58 = .ok (.ldc2_w 241, 3) := by decide +kernel
theorem dX9_checksum_61 : decode cX9_checksum 61 = .ok (.lload_n 1, 1) := by decide +kernel
theorem dX9_checksum_62 : decode cX9_checksum 62 = .ok (.lmul, 1) := by decide +kernel
theorem dX9_checksum_63 : decode cX9_checksum 63 = .ok (.aload_n 0, 1) := by decide +kernel
theorem dX9_checksum_64 : decode cX9_checksum 64 = .ok (.getfield 74, 3) := by decide +kernel
theorem dX9_checksum_67 : decode cX9_checksum 67 = .ok (.bipush 36, 2) := by decide +kernel
theorem dX9_checksum_69 : decode cX9_checksum 69 = .ok (.iload_n 3, 1) := by decide +kernel
theorem dX9_checksum_70 : decode cX9_checksum 70 = .ok (.imul, 1) := by decide +kernel
theorem dX9_checksum_71 : decode cX9_checksum 71 = .ok (.bipush 6, 2) := by decide +kernel
theorem dX9_checksum_73 : decode cX9_checksum 73 = .ok (.iload 4, 2) := by decide +kernel
theorem dX9_checksum_75 : decode cX9_checksum 75 = .ok (.imul, 1) := by decide +kernel
theorem dX9_checksum_76 : decode cX9_checksum 76 = .ok (.iadd, 1) := by decide +kernel
theorem dX9_checksum_77 : decode cX9_checksum 77 = .ok (.iload 5, 2) := by decide +kernel
theorem dX9_checksum_79 : decode cX9_checksum 79 = .ok (.iadd, 1) := by decide +kernel
theorem dX9_checksum_80 : decode cX9_checksum 80 = .ok (.iaload, 1) := by decide +kernel
theorem dX9_checksum_81 : decode cX9_checksum 81 = .ok (.i2l, 1) := by decide +kernel
theorem dX9_checksum_82 : decode cX9_checksum 82 = .ok (.ladd, 1) := by decide +kernel
theorem dX9_checksum_83 : decode cX9_checksum 83 = .ok (.lstore_n 1, 1) := by decide +kernel
theorem dX9_checksum_84 : decode cX9_checksum 84 = .ok (.iinc 5 1, 3) := by decide +kernel
theorem dX9_checksum_87 : decode cX9_checksum 87 = .ok (.goto (-46), 3) := by decide +kernel
theorem dX9_checksum_90 : decode cX9_checksum 90 = .ok (.ldc2_w 241, 3) := by decide +kernel
theorem dX9_checksum_93 : decode cX9_checksum 93 = .ok (.lload_n 1, 1) := by decide +kernel
theorem dX9_checksum_94 : decode cX9_checksum 94 = .ok (.lmul, 1) := by decide +kernel
theorem dX9_checksum_95 : decode cX9_checksum 95 = .ok (.ldc2_w 243, 3) := by decide +kernel
theorem dX9_checksum_98 : decode cX9_checksum 98 = .ok (.ladd, 1) := by decide +kernel
theorem dX9_checksum_99 : decode cX9_checksum 99 = .ok (.lstore_n 1, 1) := by decide +kernel
theorem dX9_checksum_100 : decode cX9_checksum 100 = .ok (.iinc 4 1, 3) := by decide +kernel
theorem dX9_checksum_103 : decode cX9_checksum 103 = .ok (.goto (-81), 3) := by decide +kernel
theorem dX9_checksum_106 : decode cX9_checksum 106 = .ok (.iinc 3 1, 3) := by decide +kernel
theorem dX9_checksum_109 : decode cX9_checksum 109 = .ok (.goto (-98), 3) := by decide +kernel
theorem dX9_checksum_112 : decode cX9_checksum 112 = .ok (.lload_n 1, 1) := by decide +kernel
theorem dX9_checksum_113 : decode cX9_checksum 113 = .ok (.lreturn, 1) := by decide +kernel
theorem dX9_isTrue_0 : decode cX9_isTrue 0 = .ok (.aload_n 0, 1) := by decide +kernel
theorem dX9_isTrue_1 : decode cX9_isTrue 1 = .ok (.iconst 0, 1) := by decide +kernel
theorem dX9_isTrue_2 : decode cX9_isTrue 2 = .ok (.putfield 100, 3) := by decide +kernel
theorem dX9_isTrue_5 : decode cX9_isTrue 5 = .ok (.iconst 1, 1) := by decide +kernel
theorem dX9_isTrue_6 : decode cX9_isTrue 6 = .ok (.ireturn, 1) := by decide +kernel
