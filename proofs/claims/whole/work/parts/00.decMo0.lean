theorem dd_Mo_change_0 : decode prog_7_method_2_code 0 = .ok (.aload_n 0, 1) := by decide +kernel
theorem dd_Mo_change_1 : decode prog_7_method_2_code 1 = .ok (.iconst 0, 1) := by decide +kernel
theorem dd_Mo_change_2 : decode prog_7_method_2_code 2 = .ok (.putfield 65, 3) := by decide +kernel
theorem dd_Mo_change_5 : decode prog_7_method_2_code 5 = .ok (.aload_n 0, 1) := by decide +kernel
theorem dd_Mo_change_6 : decode prog_7_method_2_code 6 = .ok (.iconst 0, 1) := by decide +kernel
theorem dd_Mo_change_7 : decode prog_7_method_2_code 7 = .ok (.putfield 69, 3) := by decide +kernel
theorem dd_Mo_change_10 : decode prog_7_method_2_code 10 = .ok (.return_, 1) := by decide +kernel
theorem dd_Mo_function_0 : decode prog_7_method_3_code 0 = .ok (.aload_n 0, 1) := by decide +kernel
theorem dd_Mo_function_1 : decode prog_7_method_3_code 1 = .ok (.getfield 72, 3) := by decide +kernel
theorem dd_Mo_function_4 : decode prog_7_method_3_code 4 = .ok (.bipush 6, 2) := by decide +kernel
theorem dd_Mo_function_6 : decode prog_7_method_3_code 6 = .ok (.if_icmp .ne (5), 3) := by decide +kernel
theorem dd_Mo_function_9 : decode prog_7_method_3_code 9 = .ok (.iconst (-1), 1) := by decide +kernel
theorem dd_Mo_function_10 : decode prog_7_method_3_code 10 = .ok (.ireturn, 1) := by decide +kernel
theorem dd_Mo_function_11 : decode prog_7_method_3_code 11 = .ok (.aload_n 0, 1) := by decide +kernel
theorem dd_Mo_function_12 : decode prog_7_method_3_code 12 = .ok (.invokevirtual 76, 3) := by decide +kernel
theorem dd_Mo_function_15 : decode prog_7_method_3_code 15 = .ok (.aload_n 0, 1) := by decide +kernel
theorem dd_Mo_function_16 : decode prog_7_method_3_code 16 = .ok (.dup, 1) := by decide +kernel
theorem dd_Mo_function_17 : decode prog_7_method_3_code 17 = .ok (.getfield 72, 3) := by decide +kernel
theorem dd_Mo_function_20 : decode prog_7_method_3_code 20 = .ok (.iconst 1, 1) := by decide +kernel
theorem dd_Mo_function_21 : decode prog_7_method_3_code 21 = .ok (.iadd, 1) := by decide +kernel
theorem dd_Mo_function_22 : decode prog_7_method_3_code 22 = .ok (.putfield 72, 3) := by decide +kernel
theorem dd_Mo_function_25 : decode prog_7_method_3_code 25 = .ok (.aload_n 0, 1) := by decide +kernel
theorem dd_Mo_function_26 : decode prog_7_method_3_code 26 = .ok (.getfield 72, 3) := by decide +kernel
theorem dd_Mo_function_29 : decode prog_7_method_3_code 29 = .ok (.iconst 1, 1) := by decide +kernel
theorem dd_Mo_function_30 : decode prog_7_method_3_code 30 = .ok (.isub, 1) := by decide +kernel
theorem dd_Mo_function_31 : decode prog_7_method_3_code 31 = .ok (.ireturn, 1) := by decide +kernel
theorem dd_Mo_variable_0 : decode prog_7_method_4_code 0 = .ok (.aload_n 0, 1) := by decide +kernel
theorem dd_Mo_variable_1 : decode prog_7_method_4_code 1 = .ok (.getfield 72, 3) := by decide +kernel
theorem dd_Mo_variable_4 : decode prog_7_method_4_code 4 = .ok (.iconst 1, 1) := by decide +kernel
theorem dd_Mo_variable_5 : decode prog_7_method_4_code 5 = .ok (.isub, 1) := by decide +kernel
theorem dd_Mo_variable_6 : decode prog_7_method_4_code 6 = .ok (.istore_n 2, 1) := by decide +kernel
theorem dd_Mo_variable_7 : decode prog_7_method_4_code 7 = .ok (.iload_n 2, 1) := by decide +kernel
theorem dd_Mo_variable_8 : decode prog_7_method_4_code 8 = .ok (.ifCond .lt (25), 3) := by decide +kernel
theorem dd_Mo_variable_11 : decode prog_7_method_4_code 11 = .ok (.iload_n 1, 1) := by decide +kernel
theorem dd_Mo_variable_12 : decode prog_7_method_4_code 12 = .ok (.iconst 1, 1) := by decide +kernel
theorem dd_Mo_variable_13 : decode prog_7_method_4_code 13 = .ok (.if_icmp .lt (20), 3) := by decide +kernel
theorem dd_Mo_variable_16 : decode prog_7_method_4_code 16 = .ok (.iload_n 1, 1) := by decide +kernel
theorem dd_Mo_variable_17 : decode prog_7_method_4_code 17 = .ok (.bipush 8, 2) := by decide +kernel
theorem dd_Mo_variable_19 : decode prog_7_method_4_code 19 = .ok (.if_icmp .gt (14), 3) := by decide +kernel
theorem dd_Mo_variable_22 : decode prog_7_method_4_code 22 = .ok (.aload_n 0, 1) := by decide +kernel
theorem dd_Mo_variable_23 : decode prog_7_method_4_code 23 = .ok (.getfield 7, 3) := by decide +kernel
theorem dd_Mo_variable_26 : decode prog_7_method_4_code 26 = .ok (.iload_n 2, 1) := by decide +kernel
theorem dd_Mo_variable_27 : decode prog_7_method_4_code 27 = .ok (.iaload, 1) := by decide +kernel
theorem dd_Mo_variable_28 : decode prog_7_method_4_code 28 = .ok (.bipush 6, 2) := by decide +kernel
theorem dd_Mo_variable_30 : decode prog_7_method_4_code 30 = .ok (.if_icmp .ne (5), 3) := by decide +kernel
theorem dd_Mo_variable_33 : decode prog_7_method_4_code 33 = .ok (.iconst (-1), 1) := by decide +kernel
theorem dd_Mo_variable_34 : decode prog_7_method_4_code 34 = .ok (.ireturn, 1) := by decide +kernel
theorem dd_Mo_variable_35 : decode prog_7_method_4_code 35 = .ok (.aload_n 0, 1) := by decide +kernel
theorem dd_Mo_variable_36 : decode prog_7_method_4_code 36 = .ok (.invokevirtual 76, 3) := by decide +kernel
theorem dd_Mo_variable_39 : decode prog_7_method_4_code 39 = .ok (.aload_n 0, 1) := by decide +kernel
theorem dd_Mo_variable_40 : decode prog_7_method_4_code 40 = .ok (.getfield 16, 3) := by decide +kernel
theorem dd_Mo_variable_43 : decode prog_7_method_4_code 43 = .ok (.bipush 6, 2) := by decide +kernel
theorem dd_Mo_variable_45 : decode prog_7_method_4_code 45 = .ok (.iload_n 2, 1) := by decide +kernel
theorem dd_Mo_variable_46 : decode prog_7_method_4_code 46 = .ok (.imul, 1) := by decide +kernel
theorem dd_Mo_variable_47 : decode prog_7_method_4_code 47 = .ok (.aload_n 0, 1) := by decide +kernel
theorem dd_Mo_variable_48 : decode prog_7_method_4_code 48 = .ok (.getfield 7, 3) := by decide +kernel
theorem dd_Mo_variable_51 : decode prog_7_method_4_code 51 = .ok (.iload_n 2, 1) := by decide +kernel
theorem dd_Mo_variable_52 : decode prog_7_method_4_code 52 = .ok (.iaload, 1) := by decide +kernel
theorem dd_Mo_variable_53 : decode prog_7_method_4_code 53 = .ok (.iadd, 1) := by decide +kernel
theorem dd_Mo_variable_54 : decode prog_7_method_4_code 54 = .ok (.iload_n 1, 1) := by decide +kernel
theorem dd_Mo_variable_55 : decode prog_7_method_4_code 55 = .ok (.iastore, 1) := by decide +kernel
theorem dd_Mo_variable_56 : decode prog_7_method_4_code 56 = .ok (.aload_n 0, 1) := by decide +kernel
theorem dd_Mo_variable_57 : decode prog_7_method_4_code 57 = .ok (.getfield 7, 3) := by decide +kernel
theorem dd_Mo_variable_60 : decode prog_7_method_4_code 60 = .ok (.iload_n 2, 1) := by decide +kernel
theorem dd_Mo_variable_61 : decode prog_7_method_4_code 61 = .ok (.dup2, 1) := by decide +kernel
theorem dd_Mo_variable_62 : decode prog_7_method_4_code 62 = .ok (.iaload, 1) := by decide +kernel
theorem dd_Mo_variable_63 : decode prog_7_method_4_code 63 = .ok (.iconst 1, 1) := by decide +kernel
theorem dd_Mo_variable_64 : decode prog_7_method_4_code 64 = .ok (.iadd, 1) := by decide +kernel
theorem dd_Mo_variable_65 : decode prog_7_method_4_code 65 = .ok (.iastore, 1) := by decide +kernel
theorem dd_Mo_variable_66 : decode prog_7_method_4_code 66 = .ok (.aload_n 0, 1) := by decide +kernel
theorem dd_Mo_variable_67 : decode prog_7_method_4_code 67 = .ok (.getfield 7, 3) := by decide +kernel
theorem dd_Mo_variable_70 : decode prog_7_method_4_code 70 = .ok (.iload_n 2, 1) := by decide +kernel
theorem dd_Mo_variable_71 : decode prog_7_method_4_code 71 = .ok (.iaload, 1) := by decide +kernel
theorem dd_Mo_variable_72 : decode prog_7_method_4_code 72 = .ok (.iconst 1, 1) := by decide +kernel
theorem dd_Mo_variable_73 : decode prog_7_method_4_code 73 = .ok (.isub, 1) := by decide +kernel
theorem dd_Mo_variable_74 : decode prog_7_method_4_code 74 = .ok (.ireturn, 1) := by decide +kernel
theorem dd_Mo_is_0 : decode prog_7_method_5_code 0 = .ok (.aload_n 0, 1) := by decide +kernel
theorem dd_Mo_is_1 : decode prog_7_method_5_code 1 = .ok (.getfield 72, 3) := by decide +kernel
theorem dd_Mo_is_4 : decode prog_7_method_5_code 4 = .ok (.iconst 1, 1) := by decide +kernel
theorem dd_Mo_is_5 : decode prog_7_method_5_code 5 = .ok (.isub, 1) := by decide +kernel
theorem dd_Mo_is_6 : decode prog_7_method_5_code 6 = .ok (.istore 4, 2) := by decide +kernel
theorem dd_Mo_is_8 : decode prog_7_method_5_code 8 = .ok (.iload_n 1, 1) := by decide +kernel
theorem dd_Mo_is_9 : decode prog_7_method_5_code 9 = .ok (.ifCond .lt (50), 3) := by decide +kernel
theorem dd_Mo_is_12 : decode prog_7_method_5_code 12 = .ok (.iload_n 1, 1) := by decide +kernel
theorem dd_Mo_is_13 : decode prog_7_method_5_code 13 = .ok (.aload_n 0, 1) := by decide +kernel
theorem dd_Mo_is_14 : decode prog_7_method_5_code 14 = .ok (.getfield 7, 3) := by decide +kernel
theorem dd_Mo_is_17 : decode prog_7_method_5_code 17 = .ok (.iload 4, 2) := by decide +kernel
theorem dd_Mo_is_19 : decode prog_7_method_5_code 19 = .ok (.iaload, 1) := by decide +kernel
theorem dd_Mo_is_20 : decode prog_7_method_5_code 20 = .ok (.if_icmp .ge (39), 3) := by decide +kernel
theorem dd_Mo_is_23 : decode prog_7_method_5_code 23 = .ok (.aload_n 0, 1) := by decide +kernel
theorem dd_Mo_is_24 : decode prog_7_method_5_code 24 = .ok (.getfield 16, 3) := by decide +kernel
theorem dd_Mo_is_27 : decode prog_7_method_5_code 27 = .ok (.bipush 6, 2) := by decide +kernel
theorem dd_Mo_is_29 : decode prog_7_method_5_code 29 = .ok (.iload 4, 2) := by decide +kernel
theorem dd_Mo_is_31 : decode prog_7_method_5_code 31 = .ok (.imul, 1) := by decide +kernel
theorem dd_Mo_is_32 : decode prog_7_method_5_code 32 = .ok (.iload_n 1, 1) := by decide +kernel
theorem dd_Mo_is_33 : decode prog_7_method_5_code 33 = .ok (.iadd, 1) := by decide +kernel
theorem dd_Mo_is_34 : decode prog_7_method_5_code 34 = .ok (.iaload, 1) := by decide +kernel
theorem dd_Mo_is_35 : decode prog_7_method_5_code 35 = .ok (.iload_n 2, 1) := by decide +kernel
theorem dd_Mo_is_36 : decode prog_7_method_5_code 36 = .ok (.if_icmp .lt (23), 3) := by decide +kernel
theorem dd_Mo_is_39 : decode prog_7_method_5_code 39 = .ok (.aload_n 0, 1) := by decide +kernel
theorem dd_Mo_is_40 : decode prog_7_method_5_code 40 = .ok (.getfield 16, 3) := by decide +kernel
theorem dd_Mo_is_43 : decode prog_7_method_5_code 43 = .ok (.bipush 6, 2) := by decide +kernel
theorem dd_Mo_is_45 : decode prog_7_method_5_code 45 = .ok (.iload 4, 2) := by decide +kernel
theorem dd_Mo_is_47 : decode prog_7_method_5_code 47 = .ok (.imul, 1) := by decide +kernel
theorem dd_Mo_is_48 : decode prog_7_method_5_code 48 = .ok (.iload_n 1, 1) := by decide +kernel
theorem dd_Mo_is_49 : decode prog_7_method_5_code 49 = .ok (.iadd, 1) := by decide +kernel
theorem dd_Mo_is_50 : decode prog_7_method_5_code 50 = .ok (.iaload, 1) := by decide +kernel
theorem dd_Mo_is_51 : decode prog_7_method_5_code 51 = .ok (.iload_n 3, 1) := by decide +kernel
theorem dd_Mo_is_52 : decode prog_7_method_5_code 52 = .ok (.if_icmp .gt (7), 3) := by decide +kernel
theorem dd_Mo_is_55 : decode prog_7_method_5_code 55 = .ok (.iconst 1, 1) := by decide +kernel
theorem dd_Mo_is_56 : decode prog_7_method_5_code 56 = .ok (.goto (4), 3) := by decide +kernel
theorem dd_Mo_is_59 : decode prog_7_method_5_code 59 = .ok (.iconst 0, 1) := by decide +kernel
theorem dd_Mo_is_60 : decode prog_7_method_5_code 60 = .ok (.ireturn, 1) := by decide +kernel
theorem dd_Mo_scalar_0 : decode prog_7_method_6_code 0 = .ok (.aload_n 0, 1) := by decide +kernel
theorem dd_Mo_scalar_1 : decode prog_7_method_6_code 1 = .ok (.iload_n 1, 1) := by decide +kernel
theorem dd_Mo_scalar_2 : decode prog_7_method_6_code 2 = .ok (.iconst 1, 1) := by decide +kernel
theorem dd_Mo_scalar_3 : decode prog_7_method_6_code 3 = .ok (.iconst 2, 1) := by decide +kernel
theorem dd_Mo_scalar_4 : decode prog_7_method_6_code 4 = .ok (.invokevirtual 79, 3) := by decide +kernel
theorem dd_Mo_scalar_7 : decode prog_7_method_6_code 7 = .ok (.ireturn, 1) := by decide +kernel
theorem dd_Mo_fine_0 : decode prog_7_method_7_code 0 = .ok (.iload_n 1, 1) := by decide +kernel
theorem dd_Mo_fine_1 : decode prog_7_method_7_code 1 = .ok (.tableswitch (267) (0) (13) #[71, 95, 117, 117, 117, 117, 117, 267, 148, 184, 220, 267, 222, 244], 71) := by decide +kernel
theorem dd_Mo_fine_72 : decode prog_7_method_7_code 72 = .ok (.aload_n 0, 1) := by decide +kernel
theorem dd_Mo_fine_73 : decode prog_7_method_7_code 73 = .ok (.iload_n 2, 1) := by decide +kernel
theorem dd_Mo_fine_74 : decode prog_7_method_7_code 74 = .ok (.invokevirtual 83, 3) := by decide +kernel
theorem dd_Mo_fine_77 : decode prog_7_method_7_code 77 = .ok (.ifCond .eq (17), 3) := by decide +kernel
theorem dd_Mo_fine_80 : decode prog_7_method_7_code 80 = .ok (.iload_n 3, 1) := by decide +kernel
theorem dd_Mo_fine_81 : decode prog_7_method_7_code 81 = .ok (.ifCond .lt (13), 3) := by decide +kernel
theorem dd_Mo_fine_84 : decode prog_7_method_7_code 84 = .ok (.iload_n 3, 1) := by decide +kernel
theorem dd_Mo_fine_85 : decode prog_7_method_7_code 85 = .ok (.ldc 87, 2) := by decide +kernel
theorem dd_Mo_fine_87 : decode prog_7_method_7_code 87 = .ok (.if_icmp .gt (7), 3) := by decide +kernel
theorem dd_Mo_fine_90 : decode prog_7_method_7_code 90 = .ok (.iconst 1, 1) := by decide +kernel
theorem dd_Mo_fine_91 : decode prog_7_method_7_code 91 = .ok (.goto (4), 3) := by decide +kernel
theorem dd_Mo_fine_94 : decode prog_7_method_7_code 94 = .ok (.iconst 0, 1) := by decide +kernel
theorem dd_Mo_fine_95 : decode prog_7_method_7_code 95 = .ok (.ireturn, 1) := by decide +kernel
theorem dd_Mo_fine_96 : decode prog_7_method_7_code 96 = .ok (.aload_n 0, 1) := by decide +kernel
theorem dd_Mo_fine_97 : decode prog_7_method_7_code 97 = .ok (.iload_n 2, 1) := by decide +kernel
theorem dd_Mo_fine_98 : decode prog_7_method_7_code 98 = .ok (.invokevirtual 83, 3) := by decide +kernel
theorem dd_Mo_fine_101 : decode prog_7_method_7_code 101 = .ok (.ifCond .eq (15), 3) := by decide +kernel
theorem dd_Mo_fine_104 : decode prog_7_method_7_code 104 = .ok (.aload_n 0, 1) := by decide +kernel
theorem dd_Mo_fine_105 : decode prog_7_method_7_code 105 = .ok (.iload_n 3, 1) := by decide +kernel
theorem dd_Mo_fine_106 : decode prog_7_method_7_code 106 = .ok (.invokevirtual 83, 3) := by decide +kernel
theorem dd_Mo_fine_109 : decode prog_7_method_7_code 109 = .ok (.ifCond .eq (7), 3) := by decide +kernel
theorem dd_Mo_fine_112 : decode prog_7_method_7_code 112 = .ok (.iconst 1, 1) := by decide +kernel
theorem dd_Mo_fine_113 : decode prog_7_method_7_code 113 = .ok (.goto (4), 3) := by decide +kernel
theorem dd_Mo_fine_116 : decode prog_7_method_7_code 116 = .ok (.iconst 0, 1) := by decide +kernel
theorem dd_Mo_fine_117 : decode prog_7_method_7_code 117 = .ok (.ireturn, 1) := by decide +kernel
theorem dd_Mo_fine_118 : decode prog_7_method_7_code 118 = .ok (.aload_n 0, 1) := by decide +kernel
theorem dd_Mo_fine_119 : decode prog_7_method_7_code 119 = .ok (.iload_n 2, 1) := by decide +kernel
theorem dd_Mo_fine_120 : decode prog_7_method_7_code 120 = .ok (.invokevirtual 83, 3) := by decide +kernel
theorem dd_Mo_fine_123 : decode prog_7_method_7_code 123 = .ok (.ifCond .eq (24), 3) := by decide +kernel
theorem dd_Mo_fine_126 : decode prog_7_method_7_code 126 = .ok (.aload_n 0, 1) := by decide +kernel
theorem dd_Mo_fine_127 : decode prog_7_method_7_code 127 = .ok (.iload_n 3, 1) := by decide +kernel
theorem dd_Mo_fine_128 : decode prog_7_method_7_code 128 = .ok (.invokevirtual 83, 3) := by decide +kernel
theorem dd_Mo_fine_131 : decode prog_7_method_7_code 131 = .ok (.ifCond .eq (16), 3) := by decide +kernel
theorem dd_Mo_fine_134 : decode prog_7_method_7_code 134 = .ok (.aload_n 0, 1) := by decide +kernel
theorem dd_Mo_fine_135 : decode prog_7_method_7_code 135 = .ok (.iload 4, 2) := by decide +kernel
theorem dd_Mo_fine_137 : decode prog_7_method_7_code 137 = .ok (.invokevirtual 83, 3) := by decide +kernel
theorem dd_Mo_fine_140 : decode prog_7_method_7_code 140 = .ok (.ifCond .eq (7), 3) := by decide +kernel
theorem dd_Mo_fine_143 : decode prog_7_method_7_code 143 = .ok (.iconst 1, 1) := by decide +kernel
theorem dd_Mo_fine_144 : decode prog_7_method_7_code 144 = .ok (.goto (4), 3) := by decide +kernel
theorem dd_Mo_fine_147 : decode prog_7_method_7_code 147 = .ok (.iconst 0, 1) := by decide +kernel
theorem dd_Mo_fine_148 : decode prog_7_method_7_code 148 = .ok (.ireturn, 1) := by decide +kernel
theorem dd_Mo_fine_149 : decode prog_7_method_7_code 149 = .ok (.aload_n 0, 1) := by decide +kernel
theorem dd_Mo_fine_150 : decode prog_7_method_7_code 150 = .ok (.iload_n 2, 1) := by decide +kernel
theorem dd_Mo_fine_151 : decode prog_7_method_7_code 151 = .ok (.invokevirtual 83, 3) := by decide +kernel
theorem dd_Mo_fine_154 : decode prog_7_method_7_code 154 = .ok (.ifCond .eq (29), 3) := by decide +kernel
theorem dd_Mo_fine_157 : decode prog_7_method_7_code 157 = .ok (.aload_n 0, 1) := by decide +kernel
theorem dd_Mo_fine_158 : decode prog_7_method_7_code 158 = .ok (.iload_n 3, 1) := by decide +kernel
theorem dd_Mo_fine_159 : decode prog_7_method_7_code 159 = .ok (.iconst 3, 1) := by decide +kernel
theorem dd_Mo_fine_160 : decode prog_7_method_7_code 160 = .ok (.bipush 8, 2) := by decide +kernel
theorem dd_Mo_fine_162 : decode prog_7_method_7_code 162 = .ok (.invokevirtual 79, 3) := by decide +kernel
theorem dd_Mo_fine_165 : decode prog_7_method_7_code 165 = .ok (.ifCond .eq (18), 3) := by decide +kernel
theorem dd_Mo_fine_168 : decode prog_7_method_7_code 168 = .ok (.aload_n 0, 1) := by decide +kernel
theorem dd_Mo_fine_169 : decode prog_7_method_7_code 169 = .ok (.iload 4, 2) := by decide +kernel
theorem dd_Mo_fine_171 : decode prog_7_method_7_code 171 = .ok (.iconst 1, 1) := by decide +kernel
theorem dd_Mo_fine_172 : decode prog_7_method_7_code 172 = .ok (.iconst 1, 1) := by decide +kernel
theorem dd_Mo_fine_173 : decode prog_7_method_7_code 173 = .ok (.invokevirtual 79, 3) := by decide +kernel
theorem dd_Mo_fine_176 : decode prog_7_method_7_code 176 = .ok (.ifCond .eq (7), 3) := by decide +kernel
theorem dd_Mo_fine_179 : decode prog_7_method_7_code 179 = .ok (.iconst 1, 1) := by decide +kernel
theorem dd_Mo_fine_180 : decode prog_7_method_7_code 180 = .ok (.goto (4), 3) := by decide +kernel
theorem dd_Mo_fine_183 : decode prog_7_method_7_code 183 = .ok (.iconst 0, 1) := by decide +kernel
theorem dd_Mo_fine_184 : decode prog_7_method_7_code 184 = .ok (.ireturn, 1) := by decide +kernel
theorem dd_Mo_fine_185 : decode prog_7_method_7_code 185 = .ok (.aload_n 0, 1) := by decide +kernel
theorem dd_Mo_fine_186 : decode prog_7_method_7_code 186 = .ok (.iload_n 2, 1) := by decide +kernel
theorem dd_Mo_fine_187 : decode prog_7_method_7_code 187 = .ok (.iconst 3, 1) := by decide +kernel
theorem dd_Mo_fine_188 : decode prog_7_method_7_code 188 = .ok (.bipush 8, 2) := by decide +kernel
theorem dd_Mo_fine_190 : decode prog_7_method_7_code 190 = .ok (.invokevirtual 79, 3) := by decide +kernel
theorem dd_Mo_fine_193 : decode prog_7_method_7_code 193 = .ok (.ifCond .eq (26), 3) := by decide +kernel
theorem dd_Mo_fine_196 : decode prog_7_method_7_code 196 = .ok (.aload_n 0, 1) := by decide +kernel
theorem dd_Mo_fine_197 : decode prog_7_method_7_code 197 = .ok (.iload_n 3, 1) := by decide +kernel
theorem dd_Mo_fine_198 : decode prog_7_method_7_code 198 = .ok (.iconst 1, 1) := by decide +kernel
theorem dd_Mo_fine_199 : decode prog_7_method_7_code 199 = .ok (.iconst 1, 1) := by decide +kernel
theorem dd_Mo_fine_200 : decode prog_7_method_7_code 200 = .ok (.invokevirtual 79, 3) := by decide +kernel
theorem dd_Mo_fine_203 : decode prog_7_method_7_code 203 = .ok (.ifCond .eq (16), 3) := by decide +kernel
theorem dd_Mo_fine_206 : decode prog_7_method_7_code 206 = .ok (.aload_n 0, 1) := by decide +kernel
theorem dd_Mo_fine_207 : decode prog_7_method_7_code 207 = .ok (.iload 4, 2) := by decide +kernel
theorem dd_Mo_fine_209 : decode prog_7_method_7_code 209 = .ok (.invokevirtual 83, 3) := by decide +kernel
theorem dd_Mo_fine_212 : decode prog_7_method_7_code 212 = .ok (.ifCond .eq (7), 3) := by decide +kernel
theorem dd_Mo_fine_215 : decode prog_7_method_7_code 215 = .ok (.iconst 1, 1) := by decide +kernel
theorem dd_Mo_fine_216 : decode prog_7_method_7_code 216 = .ok (.goto (4), 3) := by decide +kernel
theorem dd_Mo_fine_219 : decode prog_7_method_7_code 219 = .ok (.iconst 0, 1) := by decide +kernel
theorem dd_Mo_fine_220 : decode prog_7_method_7_code 220 = .ok (.ireturn, 1) := by decide +kernel
theorem dd_Mo_fine_221 : decode prog_7_method_7_code 221 = .ok (.iconst 1, 1) := by decide +kernel
theorem dd_Mo_fine_222 : decode prog_7_method_7_code 222 = .ok (.ireturn, 1) := by decide +kernel
theorem dd_Mo_fine_223 : decode prog_7_method_7_code 223 = .ok (.aload_n 0, 1) := by decide +kernel
theorem dd_Mo_fine_224 : decode prog_7_method_7_code 224 = .ok (.iload_n 2, 1) := by decide +kernel
theorem dd_Mo_fine_225 : decode prog_7_method_7_code 225 = .ok (.invokevirtual 83, 3) := by decide +kernel
theorem dd_Mo_fine_228 : decode prog_7_method_7_code 228 = .ok (.ifCond .eq (15), 3) := by decide +kernel
theorem dd_Mo_fine_231 : decode prog_7_method_7_code 231 = .ok (.aload_n 0, 1) := by decide +kernel
theorem dd_Mo_fine_232 : decode prog_7_method_7_code 232 = .ok (.iload_n 3, 1) := by decide +kernel
theorem dd_Mo_fine_233 : decode prog_7_method_7_code 233 = .ok (.invokevirtual 83, 3) := by decide +kernel
theorem dd_Mo_fine_236 : decode prog_7_method_7_code 236 = .ok (.ifCond .eq (7), 3) := by decide +kernel
theorem dd_Mo_fine_239 : decode prog_7_method_7_code 239 = .ok (.iconst 1, 1) := by decide +kernel
theorem dd_Mo_fine_240 : decode prog_7_method_7_code 240 = .ok (.goto (4), 3) := by decide +kernel
theorem dd_Mo_fine_243 : decode prog_7_method_7_code 243 = .ok (.iconst 0, 1) := by decide +kernel
theorem dd_Mo_fine_244 : decode prog_7_method_7_code 244 = .ok (.ireturn, 1) := by decide +kernel
theorem dd_Mo_fine_245 : decode prog_7_method_7_code 245 = .ok (.aload_n 0, 1) := by decide +kernel
theorem dd_Mo_fine_246 : decode prog_7_method_7_code 246 = .ok (.iload_n 3, 1) := by decide +kernel
theorem dd_Mo_fine_247 : decode prog_7_method_7_code 247 = .ok (.invokevirtual 83, 3) := by decide +kernel
theorem dd_Mo_fine_250 : decode prog_7_method_7_code 250 = .ok (.ifCond .eq (16), 3) := by decide +kernel
theorem dd_Mo_fine_253 : decode prog_7_method_7_code 253 = .ok (.aload_n 0, 1) := by decide +kernel
theorem dd_Mo_fine_254 : decode prog_7_method_7_code 254 = .ok (.iload 4, 2) := by decide +kernel
theorem dd_Mo_fine_256 : decode prog_7_method_7_code 256 = .ok (.invokevirtual 83, 3) := by decide +kernel
theorem dd_Mo_fine_259 : decode prog_7_method_7_code 259 = .ok (.ifCond .eq (7), 3) := by decide +kernel
theorem dd_Mo_fine_262 : decode prog_7_method_7_code 262 = .ok (.iconst 1, 1) := by decide +kernel
theorem dd_Mo_fine_263 : decode prog_7_method_7_code 263 = .ok (.goto (4), 3) := by decide +kernel
theorem dd_Mo_fine_266 : decode prog_7_method_7_code 266 = .ok (.iconst 0, 1) := by decide +kernel
theorem dd_Mo_fine_267 : decode prog_7_method_7_code 267 = .ok (.ireturn, 1) := by decide +kernel
theorem dd_Mo_fine_268 : decode prog_7_method_7_code 268 = .ok (.aload_n 0, 1) := by decide +kernel
theorem dd_Mo_fine_269 : decode prog_7_method_7_code 269 = .ok (.iload_n 2, 1) := by decide +kernel
theorem dd_Mo_fine_270 : decode prog_7_method_7_code 270 = .ok (.invokevirtual 83, 3) := by decide +kernel
theorem dd_Mo_fine_273 : decode prog_7_method_7_code 273 = .ok (.ireturn, 1) := by decide +kernel
theorem dd_Mo_op_0 : decode prog_7_method_8_code 0 = .ok (.aload_n 0, 1) := by decide +kernel
theorem dd_Mo_op_1 : decode prog_7_method_8_code 1 = .ok (.getfield 72, 3) := by decide +kernel
theorem dd_Mo_op_4 : decode prog_7_method_8_code 4 = .ok (.iconst 1, 1) := by decide +kernel
theorem dd_Mo_op_5 : decode prog_7_method_8_code 5 = .ok (.isub, 1) := by decide +kernel
theorem dd_Mo_op_6 : decode prog_7_method_8_code 6 = .ok (.istore 5, 2) := by decide +kernel
theorem dd_Mo_op_8 : decode prog_7_method_8_code 8 = .ok (.iload 5, 2) := by decide +kernel
theorem dd_Mo_op_10 : decode prog_7_method_8_code 10 = .ok (.ifCond .lt (46), 3) := by decide +kernel
theorem dd_Mo_op_13 : decode prog_7_method_8_code 13 = .ok (.iload_n 1, 1) := by decide +kernel
theorem dd_Mo_op_14 : decode prog_7_method_8_code 14 = .ok (.ifCond .lt (42), 3) := by decide +kernel
theorem dd_Mo_op_17 : decode prog_7_method_8_code 17 = .ok (.iload_n 1, 1) := by decide +kernel
theorem dd_Mo_op_18 : decode prog_7_method_8_code 18 = .ok (.bipush 15, 2) := by decide +kernel
theorem dd_Mo_op_20 : decode prog_7_method_8_code 20 = .ok (.if_icmp .gt (36), 3) := by decide +kernel
theorem dd_Mo_op_23 : decode prog_7_method_8_code 23 = .ok (.aload_n 0, 1) := by decide +kernel
theorem dd_Mo_op_24 : decode prog_7_method_8_code 24 = .ok (.getfield 13, 3) := by decide +kernel
theorem dd_Mo_op_27 : decode prog_7_method_8_code 27 = .ok (.iload 5, 2) := by decide +kernel
theorem dd_Mo_op_29 : decode prog_7_method_8_code 29 = .ok (.iaload, 1) := by decide +kernel
theorem dd_Mo_op_30 : decode prog_7_method_8_code 30 = .ok (.bipush 24, 2) := by decide +kernel
theorem dd_Mo_op_32 : decode prog_7_method_8_code 32 = .ok (.if_icmp .eq (24), 3) := by decide +kernel
theorem dd_Mo_op_35 : decode prog_7_method_8_code 35 = .ok (.aload_n 0, 1) := by decide +kernel
theorem dd_Mo_op_36 : decode prog_7_method_8_code 36 = .ok (.getfield 88, 3) := by decide +kernel
theorem dd_Mo_op_39 : decode prog_7_method_8_code 39 = .ok (.bipush 60, 2) := by decide +kernel
theorem dd_Mo_op_41 : decode prog_7_method_8_code 41 = .ok (.if_icmp .eq (15), 3) := by decide +kernel
theorem dd_Mo_op_44 : decode prog_7_method_8_code 44 = .ok (.aload_n 0, 1) := by decide +kernel
theorem dd_Mo_op_45 : decode prog_7_method_8_code 45 = .ok (.iload_n 1, 1) := by decide +kernel
theorem dd_Mo_op_46 : decode prog_7_method_8_code 46 = .ok (.iload_n 2, 1) := by decide +kernel
theorem dd_Mo_op_47 : decode prog_7_method_8_code 47 = .ok (.iload_n 3, 1) := by decide +kernel
theorem dd_Mo_op_48 : decode prog_7_method_8_code 48 = .ok (.iload 4, 2) := by decide +kernel
theorem dd_Mo_op_50 : decode prog_7_method_8_code 50 = .ok (.invokevirtual 91, 3) := by decide +kernel
theorem dd_Mo_op_53 : decode prog_7_method_8_code 53 = .ok (.ifCond .ne (5), 3) := by decide +kernel
theorem dd_Mo_op_56 : decode prog_7_method_8_code 56 = .ok (.iconst (-1), 1) := by decide +kernel
theorem dd_Mo_op_57 : decode prog_7_method_8_code 57 = .ok (.ireturn, 1) := by decide +kernel
theorem dd_Mo_op_58 : decode prog_7_method_8_code 58 = .ok (.aload_n 0, 1) := by decide +kernel
theorem dd_Mo_op_59 : decode prog_7_method_8_code 59 = .ok (.invokevirtual 76, 3) := by decide +kernel
theorem dd_Mo_op_62 : decode prog_7_method_8_code 62 = .ok (.bipush 24, 2) := by decide +kernel
theorem dd_Mo_op_64 : decode prog_7_method_8_code 64 = .ok (.iload 5, 2) := by decide +kernel
theorem dd_Mo_op_66 : decode prog_7_method_8_code 66 = .ok (.imul, 1) := by decide +kernel
theorem dd_Mo_op_67 : decode prog_7_method_8_code 67 = .ok (.aload_n 0, 1) := by decide +kernel
theorem dd_Mo_op_68 : decode prog_7_method_8_code 68 = .ok (.getfield 13, 3) := by decide +kernel
theorem dd_Mo_op_71 : decode prog_7_method_8_code 71 = .ok (.iload 5, 2) := by decide +kernel
theorem dd_Mo_op_73 : decode prog_7_method_8_code 73 = .ok (.iaload, 1) := by decide +kernel
theorem dd_Mo_op_74 : decode prog_7_method_8_code 74 = .ok (.iadd, 1) := by decide +kernel
theorem dd_Mo_op_75 : decode prog_7_method_8_code 75 = .ok (.istore 6, 2) := by decide +kernel
theorem dd_Mo_op_77 : decode prog_7_method_8_code 77 = .ok (.aload_n 0, 1) := by decide +kernel
theorem dd_Mo_op_78 : decode prog_7_method_8_code 78 = .ok (.getfield 19, 3) := by decide +kernel
theorem dd_Mo_op_81 : decode prog_7_method_8_code 81 = .ok (.iload 6, 2) := by decide +kernel
theorem dd_Mo_op_83 : decode prog_7_method_8_code 83 = .ok (.iload_n 1, 1) := by decide +kernel
theorem dd_Mo_op_84 : decode prog_7_method_8_code 84 = .ok (.iastore, 1) := by decide +kernel
theorem dd_Mo_op_85 : decode prog_7_method_8_code 85 = .ok (.aload_n 0, 1) := by decide +kernel
theorem dd_Mo_op_86 : decode prog_7_method_8_code 86 = .ok (.getfield 22, 3) := by decide +kernel
theorem dd_Mo_op_89 : decode prog_7_method_8_code 89 = .ok (.iload 6, 2) := by decide +kernel
theorem dd_Mo_op_91 : decode prog_7_method_8_code 91 = .ok (.iload_n 2, 1) := by decide +kernel
theorem dd_Mo_op_92 : decode prog_7_method_8_code 92 = .ok (.iastore, 1) := by decide +kernel
theorem dd_Mo_op_93 : decode prog_7_method_8_code 93 = .ok (.aload_n 0, 1) := by decide +kernel
theorem dd_Mo_op_94 : decode prog_7_method_8_code 94 = .ok (.getfield 25, 3) := by decide +kernel
theorem dd_Mo_op_97 : decode prog_7_method_8_code 97 = .ok (.iload 6, 2) := by decide +kernel
theorem dd_Mo_op_99 : decode prog_7_method_8_code 99 = .ok (.iload_n 3, 1) := by decide +kernel
theorem dd_Mo_op_100 : decode prog_7_method_8_code 100 = .ok (.iastore, 1) := by decide +kernel
theorem dd_Mo_op_101 : decode prog_7_method_8_code 101 = .ok (.aload_n 0, 1) := by decide +kernel
theorem dd_Mo_op_102 : decode prog_7_method_8_code 102 = .ok (.getfield 28, 3) := by decide +kernel
theorem dd_Mo_op_105 : decode prog_7_method_8_code 105 = .ok (.iload 6, 2) := by decide +kernel
theorem dd_Mo_op_107 : decode prog_7_method_8_code 107 = .ok (.iload 4, 2) := by decide +kernel
theorem dd_Mo_op_109 : decode prog_7_method_8_code 109 = .ok (.iastore, 1) := by decide +kernel
theorem dd_Mo_op_110 : decode prog_7_method_8_code 110 = .ok (.aload_n 0, 1) := by decide +kernel
theorem dd_Mo_op_111 : decode prog_7_method_8_code 111 = .ok (.getfield 13, 3) := by decide +kernel
theorem dd_Mo_op_114 : decode prog_7_method_8_code 114 = .ok (.iload 5, 2) := by decide +kernel
theorem dd_Mo_op_116 : decode prog_7_method_8_code 116 = .ok (.dup2, 1) := by decide +kernel
theorem dd_Mo_op_117 : decode prog_7_method_8_code 117 = .ok (.iaload, 1) := by decide +kernel
theorem dd_Mo_op_118 : decode prog_7_method_8_code 118 = .ok (.iconst 1, 1) := by decide +kernel
theorem dd_Mo_op_119 : decode prog_7_method_8_code 119 = .ok (.iadd, 1) := by decide +kernel
theorem dd_Mo_op_120 : decode prog_7_method_8_code 120 = .ok (.iastore, 1) := by decide +kernel
theorem dd_Mo_op_121 : decode prog_7_method_8_code 121 = .ok (.aload_n 0, 1) := by decide +kernel
theorem dd_Mo_op_122 : decode prog_7_method_8_code 122 = .ok (.dup, 1) := by decide +kernel
theorem dd_Mo_op_123 : decode prog_7_method_8_code 123 = .ok (.getfield 88, 3) := by decide +kernel
theorem dd_Mo_op_126 : decode prog_7_method_8_code 126 = .ok (.iconst 1, 1) := by decide +kernel
theorem dd_Mo_op_127 : decode prog_7_method_8_code 127 = .ok (.iadd, 1) := by decide +kernel
theorem dd_Mo_op_128 : decode prog_7_method_8_code 128 = .ok (.putfield 88, 3) := by decide +kernel
theorem dd_Mo_op_131 : decode prog_7_method_8_code 131 = .ok (.aload_n 0, 1) := by decide +kernel
theorem dd_Mo_op_132 : decode prog_7_method_8_code 132 = .ok (.getfield 13, 3) := by decide +kernel
theorem dd_Mo_op_135 : decode prog_7_method_8_code 135 = .ok (.iload 5, 2) := by decide +kernel
theorem dd_Mo_op_137 : decode prog_7_method_8_code 137 = .ok (.iaload, 1) := by decide +kernel
theorem dd_Mo_op_138 : decode prog_7_method_8_code 138 = .ok (.iconst 1, 1) := by decide +kernel
theorem dd_Mo_op_139 : decode prog_7_method_8_code 139 = .ok (.isub, 1) := by decide +kernel
theorem dd_Mo_op_140 : decode prog_7_method_8_code 140 = .ok (.ireturn, 1) := by decide +kernel
theorem dd_Mo_branches_0 : decode prog_7_method_9_code 0 = .ok (.iload_n 0, 1) := by decide +kernel
theorem dd_Mo_branches_1 : decode prog_7_method_9_code 1 = .ok (.bipush 11, 2) := by decide +kernel
theorem dd_Mo_branches_3 : decode prog_7_method_9_code 3 = .ok (.if_icmp .eq (9), 3) := by decide +kernel
theorem dd_Mo_branches_6 : decode prog_7_method_9_code 6 = .ok (.iload_n 0, 1) := by decide +kernel
theorem dd_Mo_branches_7 : decode prog_7_method_9_code 7 = .ok (.bipush 12, 2) := by decide +kernel
theorem dd_Mo_branches_9 : decode prog_7_method_9_code 9 = .ok (.if_icmp .ne (7), 3) := by decide +kernel
theorem dd_Mo_branches_12 : decode prog_7_method_9_code 12 = .ok (.iconst 1, 1) := by decide +kernel
theorem dd_Mo_branches_13 : decode prog_7_method_9_code 13 = .ok (.goto (4), 3) := by decide +kernel
theorem dd_Mo_branches_16 : decode prog_7_method_9_code 16 = .ok (.iconst 0, 1) := by decide +kernel
theorem dd_Mo_branches_17 : decode prog_7_method_9_code 17 = .ok (.ireturn, 1) := by decide +kernel
theorem dd_Mo_goal_0 : decode prog_7_method_10_code 0 = .ok (.aload_n 0, 1) := by decide +kernel
theorem dd_Mo_goal_1 : decode prog_7_method_10_code 1 = .ok (.getfield 19, 3) := by decide +kernel
theorem dd_Mo_goal_4 : decode prog_7_method_10_code 4 = .ok (.iload_n 1, 1) := by decide +kernel
theorem dd_Mo_goal_5 : decode prog_7_method_10_code 5 = .ok (.iaload, 1) := by decide +kernel
theorem dd_Mo_goal_6 : decode prog_7_method_10_code 6 = .ok (.bipush 10, 2) := by decide +kernel
theorem dd_Mo_goal_8 : decode prog_7_method_10_code 8 = .ok (.if_icmp .ne (12), 3) := by decide +kernel
theorem dd_Mo_goal_11 : decode prog_7_method_10_code 11 = .ok (.aload_n 0, 1) := by decide +kernel
theorem dd_Mo_goal_12 : decode prog_7_method_10_code 12 = .ok (.getfield 22, 3) := by decide +kernel
theorem dd_Mo_goal_15 : decode prog_7_method_10_code 15 = .ok (.iload_n 1, 1) := by decide +kernel
theorem dd_Mo_goal_16 : decode prog_7_method_10_code 16 = .ok (.iaload, 1) := by decide +kernel
theorem dd_Mo_goal_17 : decode prog_7_method_10_code 17 = .ok (.goto (29), 3) := by decide +kernel
theorem dd_Mo_goal_20 : decode prog_7_method_10_code 20 = .ok (.aload_n 0, 1) := by decide +kernel
theorem dd_Mo_goal_21 : decode prog_7_method_10_code 21 = .ok (.getfield 19, 3) := by decide +kernel
theorem dd_Mo_goal_24 : decode prog_7_method_10_code 24 = .ok (.iload_n 1, 1) := by decide +kernel
theorem dd_Mo_goal_25 : decode prog_7_method_10_code 25 = .ok (.iaload, 1) := by decide +kernel
theorem dd_Mo_goal_26 : decode prog_7_method_10_code 26 = .ok (.bipush 11, 2) := by decide +kernel
theorem dd_Mo_goal_28 : decode prog_7_method_10_code 28 = .ok (.if_icmp .ne (12), 3) := by decide +kernel
theorem dd_Mo_goal_31 : decode prog_7_method_10_code 31 = .ok (.aload_n 0, 1) := by decide +kernel
theorem dd_Mo_goal_32 : decode prog_7_method_10_code 32 = .ok (.getfield 25, 3) := by decide +kernel
theorem dd_Mo_goal_35 : decode prog_7_method_10_code 35 = .ok (.iload_n 1, 1) := by decide +kernel
theorem dd_Mo_goal_36 : decode prog_7_method_10_code 36 = .ok (.iaload, 1) := by decide +kernel
theorem dd_Mo_goal_37 : decode prog_7_method_10_code 37 = .ok (.goto (9), 3) := by decide +kernel
theorem dd_Mo_goal_40 : decode prog_7_method_10_code 40 = .ok (.aload_n 0, 1) := by decide +kernel
theorem dd_Mo_goal_41 : decode prog_7_method_10_code 41 = .ok (.getfield 28, 3) := by decide +kernel
theorem dd_Mo_goal_44 : decode prog_7_method_10_code 44 = .ok (.iload_n 1, 1) := by decide +kernel
theorem dd_Mo_goal_45 : decode prog_7_method_10_code 45 = .ok (.iaload, 1) := by decide +kernel
theorem dd_Mo_goal_46 : decode prog_7_method_10_code 46 = .ok (.ireturn, 1) := by decide +kernel
theorem dd_Mo_ended_0 : decode prog_7_method_11_code 0 = .ok (.iconst 0, 1) := by decide +kernel
theorem dd_Mo_ended_1 : decode prog_7_method_11_code 1 = .ok (.istore_n 1, 1) := by decide +kernel
theorem dd_Mo_ended_2 : decode prog_7_method_11_code 2 = .ok (.iload_n 1, 1) := by decide +kernel
theorem dd_Mo_ended_3 : decode prog_7_method_11_code 3 = .ok (.aload_n 0, 1) := by decide +kernel
theorem dd_Mo_ended_4 : decode prog_7_method_11_code 4 = .ok (.getfield 72, 3) := by decide +kernel
theorem dd_Mo_ended_7 : decode prog_7_method_11_code 7 = .ok (.if_icmp .ge (53), 3) := by decide +kernel
theorem dd_Mo_ended_10 : decode prog_7_method_11_code 10 = .ok (.aload_n 0, 1) := by decide +kernel
theorem dd_Mo_ended_11 : decode prog_7_method_11_code 11 = .ok (.getfield 13, 3) := by decide +kernel
theorem dd_Mo_ended_14 : decode prog_7_method_11_code 14 = .ok (.iload_n 1, 1) := by decide +kernel
theorem dd_Mo_ended_15 : decode prog_7_method_11_code 15 = .ok (.iaload, 1) := by decide +kernel
theorem dd_Mo_ended_16 : decode prog_7_method_11_code 16 = .ok (.ifCond .ne (5), 3) := by decide +kernel
theorem dd_Mo_ended_19 : decode prog_7_method_11_code 19 = .ok (.iconst 0, 1) := by decide +kernel
theorem dd_Mo_ended_20 : decode prog_7_method_11_code 20 = .ok (.ireturn, 1) := by decide +kernel
theorem dd_Mo_ended_21 : decode prog_7_method_11_code 21 = .ok (.aload_n 0, 1) := by decide +kernel
theorem dd_Mo_ended_22 : decode prog_7_method_11_code 22 = .ok (.getfield 19, 3) := by decide +kernel
theorem dd_Mo_ended_25 : decode prog_7_method_11_code 25 = .ok (.bipush 24, 2) := by decide +kernel
theorem dd_Mo_ended_27 : decode prog_7_method_11_code 27 = .ok (.iload_n 1, 1) := by decide +kernel
theorem dd_Mo_ended_28 : decode prog_7_method_11_code 28 = .ok (.imul, 1) := by decide +kernel
theorem dd_Mo_ended_29 : decode prog_7_method_11_code 29 = .ok (.aload_n 0, 1) := by decide +kernel
theorem dd_Mo_ended_30 : decode prog_7_method_11_code 30 = .ok (.getfield 13, 3) := by decide +kernel
theorem dd_Mo_ended_33 : decode prog_7_method_11_code 33 = .ok (.iload_n 1, 1) := by decide +kernel
theorem dd_Mo_ended_34 : decode prog_7_method_11_code 34 = .ok (.iaload, 1) := by decide +kernel
theorem dd_Mo_ended_35 : decode prog_7_method_11_code 35 = .ok (.iadd, 1) := by decide +kernel
theorem dd_Mo_ended_36 : decode prog_7_method_11_code 36 = .ok (.iconst 1, 1) := by decide +kernel
theorem dd_Mo_ended_37 : decode prog_7_method_11_code 37 = .ok (.isub, 1) := by decide +kernel
theorem dd_Mo_ended_38 : decode prog_7_method_11_code 38 = .ok (.iaload, 1) := by decide +kernel
theorem dd_Mo_ended_39 : decode prog_7_method_11_code 39 = .ok (.istore_n 2, 1) := by decide +kernel
theorem dd_Mo_ended_40 : decode prog_7_method_11_code 40 = .ok (.iload_n 2, 1) := by decide +kernel
theorem dd_Mo_ended_41 : decode prog_7_method_11_code 41 = .ok (.bipush 10, 2) := by decide +kernel
theorem dd_Mo_ended_43 : decode prog_7_method_11_code 43 = .ok (.if_icmp .eq (11), 3) := by decide +kernel
theorem dd_Mo_ended_46 : decode prog_7_method_11_code 46 = .ok (.iload_n 2, 1) := by decide +kernel
theorem dd_Mo_ended_47 : decode prog_7_method_11_code 47 = .ok (.bipush 14, 2) := by decide +kernel
theorem dd_Mo_ended_49 : decode prog_7_method_11_code 49 = .ok (.if_icmp .eq (5), 3) := by decide +kernel
theorem dd_Mo_ended_52 : decode prog_7_method_11_code 52 = .ok (.iconst 0, 1) := by decide +kernel
theorem dd_Mo_ended_53 : decode prog_7_method_11_code 53 = .ok (.ireturn, 1) := by decide +kernel
theorem dd_Mo_ended_54 : decode prog_7_method_11_code 54 = .ok (.iinc 1 1, 3) := by decide +kernel
theorem dd_Mo_ended_57 : decode prog_7_method_11_code 57 = .ok (.goto (-55), 3) := by decide +kernel
theorem dd_Mo_ended_60 : decode prog_7_method_11_code 60 = .ok (.aload_n 0, 1) := by decide +kernel
theorem dd_Mo_ended_61 : decode prog_7_method_11_code 61 = .ok (.getfield 72, 3) := by decide +kernel
theorem dd_Mo_ended_64 : decode prog_7_method_11_code 64 = .ok (.ifCond .le (7), 3) := by decide +kernel
theorem dd_Mo_ended_67 : decode prog_7_method_11_code 67 = .ok (.iconst 1, 1) := by decide +kernel
theorem dd_Mo_ended_68 : decode prog_7_method_11_code 68 = .ok (.goto (4), 3) := by decide +kernel
theorem dd_Mo_ended_71 : decode prog_7_method_11_code 71 = .ok (.iconst 0, 1) := by decide +kernel
theorem dd_Mo_ended_72 : decode prog_7_method_11_code 72 = .ok (.ireturn, 1) := by decide +kernel
theorem dd_Mo_aimed_0 : decode prog_7_method_12_code 0 = .ok (.iconst 0, 1) := by decide +kernel
theorem dd_Mo_aimed_1 : decode prog_7_method_12_code 1 = .ok (.istore_n 1, 1) := by decide +kernel
theorem dd_Mo_aimed_2 : decode prog_7_method_12_code 2 = .ok (.iload_n 1, 1) := by decide +kernel
theorem dd_Mo_aimed_3 : decode prog_7_method_12_code 3 = .ok (.sipush 144, 3) := by decide +kernel
theorem dd_Mo_aimed_6 : decode prog_7_method_12_code 6 = .ok (.if_icmp .ge (16), 3) := by decide +kernel
theorem dd_Mo_aimed_9 : decode prog_7_method_12_code 9 = .ok (.aload_n 0, 1) := by decide +kernel
theorem dd_Mo_aimed_10 : decode prog_7_method_12_code 10 = .ok (.getfield 44, 3) := by decide +kernel
theorem dd_Mo_aimed_13 : decode prog_7_method_12_code 13 = .ok (.iload_n 1, 1) := by decide +kernel
theorem dd_Mo_aimed_14 : decode prog_7_method_12_code 14 = .ok (.iconst 0, 1) := by decide +kernel
theorem dd_Mo_aimed_15 : decode prog_7_method_12_code 15 = .ok (.bastore, 1) := by decide +kernel
theorem dd_Mo_aimed_16 : decode prog_7_method_12_code 16 = .ok (.iinc 1 1, 3) := by decide +kernel
theorem dd_Mo_aimed_19 : decode prog_7_method_12_code 19 = .ok (.goto (-17), 3) := by decide +kernel
theorem dd_Mo_aimed_22 : decode prog_7_method_12_code 22 = .ok (.iconst 0, 1) := by decide +kernel
theorem dd_Mo_aimed_23 : decode prog_7_method_12_code 23 = .ok (.istore_n 1, 1) := by decide +kernel
theorem dd_Mo_aimed_24 : decode prog_7_method_12_code 24 = .ok (.iload_n 1, 1) := by decide +kernel
theorem dd_Mo_aimed_25 : decode prog_7_method_12_code 25 = .ok (.aload_n 0, 1) := by decide +kernel
theorem dd_Mo_aimed_26 : decode prog_7_method_12_code 26 = .ok (.getfield 72, 3) := by decide +kernel
theorem dd_Mo_aimed_29 : decode prog_7_method_12_code 29 = .ok (.if_icmp .ge (101), 3) := by decide +kernel
theorem dd_Mo_aimed_32 : decode prog_7_method_12_code 32 = .ok (.bipush 24, 2) := by decide +kernel
theorem dd_Mo_aimed_34 : decode prog_7_method_12_code 34 = .ok (.iload_n 1, 1) := by decide +kernel
theorem dd_Mo_aimed_35 : decode prog_7_method_12_code 35 = .ok (.imul, 1) := by decide +kernel
theorem dd_Mo_aimed_36 : decode prog_7_method_12_code 36 = .ok (.istore_n 2, 1) := by decide +kernel
theorem dd_Mo_aimed_37 : decode prog_7_method_12_code 37 = .ok (.iload_n 2, 1) := by decide +kernel
theorem dd_Mo_aimed_38 : decode prog_7_method_12_code 38 = .ok (.bipush 24, 2) := by decide +kernel
theorem dd_Mo_aimed_40 : decode prog_7_method_12_code 40 = .ok (.iload_n 1, 1) := by decide +kernel
theorem dd_Mo_aimed_41 : decode prog_7_method_12_code 41 = .ok (.imul, 1) := by decide +kernel
theorem dd_Mo_aimed_42 : decode prog_7_method_12_code 42 = .ok (.aload_n 0, 1) := by decide +kernel
theorem dd_Mo_aimed_43 : decode prog_7_method_12_code 43 = .ok (.getfield 13, 3) := by decide +kernel
theorem dd_Mo_aimed_46 : decode prog_7_method_12_code 46 = .ok (.iload_n 1, 1) := by decide +kernel
theorem dd_Mo_aimed_47 : decode prog_7_method_12_code 47 = .ok (.iaload, 1) := by decide +kernel
theorem dd_Mo_aimed_48 : decode prog_7_method_12_code 48 = .ok (.iadd, 1) := by decide +kernel
theorem dd_Mo_aimed_49 : decode prog_7_method_12_code 49 = .ok (.if_icmp .ge (75), 3) := by decide +kernel
theorem dd_Mo_aimed_52 : decode prog_7_method_12_code 52 = .ok (.aload_n 0, 1) := by decide +kernel
theorem dd_Mo_aimed_53 : decode prog_7_method_12_code 53 = .ok (.getfield 19, 3) := by decide +kernel
theorem dd_Mo_aimed_56 : decode prog_7_method_12_code 56 = .ok (.iload_n 2, 1) := by decide +kernel
theorem dd_Mo_aimed_57 : decode prog_7_method_12_code 57 = .ok (.iaload, 1) := by decide +kernel
theorem dd_Mo_aimed_58 : decode prog_7_method_12_code 58 = .ok (.bipush 10, 2) := by decide +kernel
theorem dd_Mo_aimed_60 : decode prog_7_method_12_code 60 = .ok (.if_icmp .eq (18), 3) := by decide +kernel
theorem dd_Mo_aimed_63 : decode prog_7_method_12_code 63 = .ok (.aload_n 0, 1) := by decide +kernel
theorem dd_Mo_aimed_64 : decode prog_7_method_12_code 64 = .ok (.getfield 19, 3) := by decide +kernel
theorem dd_Mo_aimed_67 : decode prog_7_method_12_code 67 = .ok (.iload_n 2, 1) := by decide +kernel
theorem dd_Mo_aimed_68 : decode prog_7_method_12_code 68 = .ok (.iaload, 1) := by decide +kernel
theorem dd_Mo_aimed_69 : decode prog_7_method_12_code 69 = .ok (.invokestatic 95, 3) := by decide +kernel
theorem dd_Mo_aimed_72 : decode prog_7_method_12_code 72 = .ok (.ifCond .ne (6), 3) := by decide +kernel
theorem dd_Mo_aimed_75 : decode prog_7_method_12_code 75 = .ok (.goto (43), 3) := by decide +kernel
theorem dd_Mo_aimed_78 : decode prog_7_method_12_code 78 = .ok (.aload_n 0, 1) := by decide +kernel
theorem dd_Mo_aimed_79 : decode prog_7_method_12_code 79 = .ok (.iload_n 2, 1) := by decide +kernel
theorem dd_Mo_aimed_80 : decode prog_7_method_12_code 80 = .ok (.invokevirtual 98, 3) := by decide +kernel
theorem dd_Mo_aimed_83 : decode prog_7_method_12_code 83 = .ok (.ifCond .lt (17), 3) := by decide +kernel
theorem dd_Mo_aimed_86 : decode prog_7_method_12_code 86 = .ok (.aload_n 0, 1) := by decide +kernel
theorem dd_Mo_aimed_87 : decode prog_7_method_12_code 87 = .ok (.iload_n 2, 1) := by decide +kernel
theorem dd_Mo_aimed_88 : decode prog_7_method_12_code 88 = .ok (.invokevirtual 98, 3) := by decide +kernel
theorem dd_Mo_aimed_91 : decode prog_7_method_12_code 91 = .ok (.aload_n 0, 1) := by decide +kernel
theorem dd_Mo_aimed_92 : decode prog_7_method_12_code 92 = .ok (.getfield 13, 3) := by decide +kernel
theorem dd_Mo_aimed_95 : decode prog_7_method_12_code 95 = .ok (.iload_n 1, 1) := by decide +kernel
theorem dd_Mo_aimed_96 : decode prog_7_method_12_code 96 = .ok (.iaload, 1) := by decide +kernel
theorem dd_Mo_aimed_97 : decode prog_7_method_12_code 97 = .ok (.if_icmp .lt (5), 3) := by decide +kernel
theorem dd_Mo_aimed_100 : decode prog_7_method_12_code 100 = .ok (.iconst 0, 1) := by decide +kernel
theorem dd_Mo_aimed_101 : decode prog_7_method_12_code 101 = .ok (.ireturn, 1) := by decide +kernel
theorem dd_Mo_aimed_102 : decode prog_7_method_12_code 102 = .ok (.aload_n 0, 1) := by decide +kernel
theorem dd_Mo_aimed_103 : decode prog_7_method_12_code 103 = .ok (.getfield 44, 3) := by decide +kernel
theorem dd_Mo_aimed_106 : decode prog_7_method_12_code 106 = .ok (.bipush 24, 2) := by decide +kernel
theorem dd_Mo_aimed_108 : decode prog_7_method_12_code 108 = .ok (.iload_n 1, 1) := by decide +kernel
theorem dd_Mo_aimed_109 : decode prog_7_method_12_code 109 = .ok (.imul, 1) := by decide +kernel
theorem dd_Mo_aimed_110 : decode prog_7_method_12_code 110 = .ok (.aload_n 0, 1) := by decide +kernel
theorem dd_Mo_aimed_111 : decode prog_7_method_12_code 111 = .ok (.iload_n 2, 1) := by decide +kernel
theorem dd_Mo_aimed_112 : decode prog_7_method_12_code 112 = .ok (.invokevirtual 98, 3) := by decide +kernel
theorem dd_Mo_aimed_115 : decode prog_7_method_12_code 115 = .ok (.iadd, 1) := by decide +kernel
theorem dd_Mo_aimed_116 : decode prog_7_method_12_code 116 = .ok (.iconst 1, 1) := by decide +kernel
theorem dd_Mo_aimed_117 : decode prog_7_method_12_code 117 = .ok (.bastore, 1) := by decide +kernel
theorem dd_Mo_aimed_118 : decode prog_7_method_12_code 118 = .ok (.iinc 2 1, 3) := by decide +kernel
theorem dd_Mo_aimed_121 : decode prog_7_method_12_code 121 = .ok (.goto (-84), 3) := by decide +kernel
theorem dd_Mo_aimed_124 : decode prog_7_method_12_code 124 = .ok (.iinc 1 1, 3) := by decide +kernel
theorem dd_Mo_aimed_127 : decode prog_7_method_12_code 127 = .ok (.goto (-103), 3) := by decide +kernel
theorem dd_Mo_aimed_130 : decode prog_7_method_12_code 130 = .ok (.iconst 1, 1) := by decide +kernel
theorem dd_Mo_aimed_131 : decode prog_7_method_12_code 131 = .ok (.ireturn, 1) := by decide +kernel
theorem dd_Mo_called_0 : decode prog_7_method_13_code 0 = .ok (.iconst 0, 1) := by decide +kernel
theorem dd_Mo_called_1 : decode prog_7_method_13_code 1 = .ok (.istore_n 1, 1) := by decide +kernel
theorem dd_Mo_called_2 : decode prog_7_method_13_code 2 = .ok (.iload_n 1, 1) := by decide +kernel
theorem dd_Mo_called_3 : decode prog_7_method_13_code 3 = .ok (.bipush 36, 2) := by decide +kernel
theorem dd_Mo_called_5 : decode prog_7_method_13_code 5 = .ok (.if_icmp .ge (16), 3) := by decide +kernel
theorem dd_Mo_called_8 : decode prog_7_method_13_code 8 = .ok (.aload_n 0, 1) := by decide +kernel
theorem dd_Mo_called_9 : decode prog_7_method_13_code 9 = .ok (.getfield 34, 3) := by decide +kernel
theorem dd_Mo_called_12 : decode prog_7_method_13_code 12 = .ok (.iload_n 1, 1) := by decide +kernel
theorem dd_Mo_called_13 : decode prog_7_method_13_code 13 = .ok (.iconst 0, 1) := by decide +kernel
theorem dd_Mo_called_14 : decode prog_7_method_13_code 14 = .ok (.bastore, 1) := by decide +kernel
theorem dd_Mo_called_15 : decode prog_7_method_13_code 15 = .ok (.iinc 1 1, 3) := by decide +kernel
theorem dd_Mo_called_18 : decode prog_7_method_13_code 18 = .ok (.goto (-16), 3) := by decide +kernel
theorem dd_Mo_called_21 : decode prog_7_method_13_code 21 = .ok (.iconst 0, 1) := by decide +kernel
theorem dd_Mo_called_22 : decode prog_7_method_13_code 22 = .ok (.istore_n 1, 1) := by decide +kernel
theorem dd_Mo_called_23 : decode prog_7_method_13_code 23 = .ok (.iload_n 1, 1) := by decide +kernel
theorem dd_Mo_called_24 : decode prog_7_method_13_code 24 = .ok (.aload_n 0, 1) := by decide +kernel
theorem dd_Mo_called_25 : decode prog_7_method_13_code 25 = .ok (.getfield 72, 3) := by decide +kernel
theorem dd_Mo_called_28 : decode prog_7_method_13_code 28 = .ok (.if_icmp .ge (90), 3) := by decide +kernel
theorem dd_Mo_called_31 : decode prog_7_method_13_code 31 = .ok (.bipush 24, 2) := by decide +kernel
theorem dd_Mo_called_33 : decode prog_7_method_13_code 33 = .ok (.iload_n 1, 1) := by decide +kernel
theorem dd_Mo_called_34 : decode prog_7_method_13_code 34 = .ok (.imul, 1) := by decide +kernel
theorem dd_Mo_called_35 : decode prog_7_method_13_code 35 = .ok (.istore_n 2, 1) := by decide +kernel
theorem dd_Mo_called_36 : decode prog_7_method_13_code 36 = .ok (.iload_n 2, 1) := by decide +kernel
theorem dd_Mo_called_37 : decode prog_7_method_13_code 37 = .ok (.bipush 24, 2) := by decide +kernel
theorem dd_Mo_called_39 : decode prog_7_method_13_code 39 = .ok (.iload_n 1, 1) := by decide +kernel
theorem dd_Mo_called_40 : decode prog_7_method_13_code 40 = .ok (.imul, 1) := by decide +kernel
theorem dd_Mo_called_41 : decode prog_7_method_13_code 41 = .ok (.aload_n 0, 1) := by decide +kernel
theorem dd_Mo_called_42 : decode prog_7_method_13_code 42 = .ok (.getfield 13, 3) := by decide +kernel
theorem dd_Mo_called_45 : decode prog_7_method_13_code 45 = .ok (.iload_n 1, 1) := by decide +kernel
theorem dd_Mo_called_46 : decode prog_7_method_13_code 46 = .ok (.iaload, 1) := by decide +kernel
theorem dd_Mo_called_47 : decode prog_7_method_13_code 47 = .ok (.iadd, 1) := by decide +kernel
theorem dd_Mo_called_48 : decode prog_7_method_13_code 48 = .ok (.if_icmp .ge (64), 3) := by decide +kernel
theorem dd_Mo_called_51 : decode prog_7_method_13_code 51 = .ok (.aload_n 0, 1) := by decide +kernel
theorem dd_Mo_called_52 : decode prog_7_method_13_code 52 = .ok (.getfield 19, 3) := by decide +kernel
theorem dd_Mo_called_55 : decode prog_7_method_13_code 55 = .ok (.iload_n 2, 1) := by decide +kernel
theorem dd_Mo_called_56 : decode prog_7_method_13_code 56 = .ok (.iaload, 1) := by decide +kernel
theorem dd_Mo_called_57 : decode prog_7_method_13_code 57 = .ok (.bipush 13, 2) := by decide +kernel
theorem dd_Mo_called_59 : decode prog_7_method_13_code 59 = .ok (.if_icmp .eq (6), 3) := by decide +kernel
theorem dd_Mo_called_62 : decode prog_7_method_13_code 62 = .ok (.goto (44), 3) := by decide +kernel
theorem dd_Mo_called_65 : decode prog_7_method_13_code 65 = .ok (.aload_n 0, 1) := by decide +kernel
theorem dd_Mo_called_66 : decode prog_7_method_13_code 66 = .ok (.getfield 22, 3) := by decide +kernel
theorem dd_Mo_called_69 : decode prog_7_method_13_code 69 = .ok (.iload_n 2, 1) := by decide +kernel
theorem dd_Mo_called_70 : decode prog_7_method_13_code 70 = .ok (.iaload, 1) := by decide +kernel
theorem dd_Mo_called_71 : decode prog_7_method_13_code 71 = .ok (.ifCond .lt (16), 3) := by decide +kernel
theorem dd_Mo_called_74 : decode prog_7_method_13_code 74 = .ok (.aload_n 0, 1) := by decide +kernel
theorem dd_Mo_called_75 : decode prog_7_method_13_code 75 = .ok (.getfield 22, 3) := by decide +kernel
theorem dd_Mo_called_78 : decode prog_7_method_13_code 78 = .ok (.iload_n 2, 1) := by decide +kernel
theorem dd_Mo_called_79 : decode prog_7_method_13_code 79 = .ok (.iaload, 1) := by decide +kernel
theorem dd_Mo_called_80 : decode prog_7_method_13_code 80 = .ok (.aload_n 0, 1) := by decide +kernel
theorem dd_Mo_called_81 : decode prog_7_method_13_code 81 = .ok (.getfield 72, 3) := by decide +kernel
theorem dd_Mo_called_84 : decode prog_7_method_13_code 84 = .ok (.if_icmp .lt (5), 3) := by decide +kernel
theorem dd_Mo_called_87 : decode prog_7_method_13_code 87 = .ok (.iconst 0, 1) := by decide +kernel
theorem dd_Mo_called_88 : decode prog_7_method_13_code 88 = .ok (.ireturn, 1) := by decide +kernel
theorem dd_Mo_called_89 : decode prog_7_method_13_code 89 = .ok (.aload_n 0, 1) := by decide +kernel
theorem dd_Mo_called_90 : decode prog_7_method_13_code 90 = .ok (.getfield 34, 3) := by decide +kernel
theorem dd_Mo_called_93 : decode prog_7_method_13_code 93 = .ok (.bipush 6, 2) := by decide +kernel
theorem dd_Mo_called_95 : decode prog_7_method_13_code 95 = .ok (.iload_n 1, 1) := by decide +kernel
theorem dd_Mo_called_96 : decode prog_7_method_13_code 96 = .ok (.imul, 1) := by decide +kernel
theorem dd_Mo_called_97 : decode prog_7_method_13_code 97 = .ok (.aload_n 0, 1) := by decide +kernel
theorem dd_Mo_called_98 : decode prog_7_method_13_code 98 = .ok (.getfield 22, 3) := by decide +kernel
theorem dd_Mo_called_101 : decode prog_7_method_13_code 101 = .ok (.iload_n 2, 1) := by decide +kernel
theorem dd_Mo_called_102 : decode prog_7_method_13_code 102 = .ok (.iaload, 1) := by decide +kernel
theorem dd_Mo_called_103 : decode prog_7_method_13_code 103 = .ok (.iadd, 1) := by decide +kernel
theorem dd_Mo_called_104 : decode prog_7_method_13_code 104 = .ok (.iconst 1, 1) := by decide +kernel
theorem dd_Mo_called_105 : decode prog_7_method_13_code 105 = .ok (.bastore, 1) := by decide +kernel
theorem dd_Mo_called_106 : decode prog_7_method_13_code 106 = .ok (.iinc 2 1, 3) := by decide +kernel
theorem dd_Mo_called_109 : decode prog_7_method_13_code 109 = .ok (.goto (-73), 3) := by decide +kernel
theorem dd_Mo_called_112 : decode prog_7_method_13_code 112 = .ok (.iinc 1 1, 3) := by decide +kernel
theorem dd_Mo_called_115 : decode prog_7_method_13_code 115 = .ok (.goto (-92), 3) := by decide +kernel
theorem dd_Mo_called_118 : decode prog_7_method_13_code 118 = .ok (.iconst 1, 1) := by decide +kernel
theorem dd_Mo_called_119 : decode prog_7_method_13_code 119 = .ok (.ireturn, 1) := by decide +kernel
theorem dd_Mo_rings_0 : decode prog_7_method_14_code 0 = .ok (.iconst 0, 1) := by decide +kernel
theorem dd_Mo_rings_1 : decode prog_7_method_14_code 1 = .ok (.istore_n 1, 1) := by decide +kernel
theorem dd_Mo_rings_2 : decode prog_7_method_14_code 2 = .ok (.iconst 0, 1) := by decide +kernel
theorem dd_Mo_rings_3 : decode prog_7_method_14_code 3 = .ok (.istore_n 2, 1) := by decide +kernel
theorem dd_Mo_rings_4 : decode prog_7_method_14_code 4 = .ok (.iload_n 2, 1) := by decide +kernel
theorem dd_Mo_rings_5 : decode prog_7_method_14_code 5 = .ok (.bipush 6, 2) := by decide +kernel
theorem dd_Mo_rings_7 : decode prog_7_method_14_code 7 = .ok (.if_icmp .ge (118), 3) := by decide +kernel
theorem dd_Mo_rings_10 : decode prog_7_method_14_code 10 = .ok (.iconst 1, 1) := by decide +kernel
theorem dd_Mo_rings_11 : decode prog_7_method_14_code 11 = .ok (.iload_n 2, 1) := by decide +kernel
theorem dd_Mo_rings_12 : decode prog_7_method_14_code 12 = .ok (.ishl, 1) := by decide +kernel
theorem dd_Mo_rings_13 : decode prog_7_method_14_code 13 = .ok (.istore_n 3, 1) := by decide +kernel
theorem dd_Mo_rings_14 : decode prog_7_method_14_code 14 = .ok (.iconst 0, 1) := by decide +kernel
theorem dd_Mo_rings_15 : decode prog_7_method_14_code 15 = .ok (.istore 4, 2) := by decide +kernel
theorem dd_Mo_rings_17 : decode prog_7_method_14_code 17 = .ok (.iconst 0, 1) := by decide +kernel
theorem dd_Mo_rings_18 : decode prog_7_method_14_code 18 = .ok (.istore 5, 2) := by decide +kernel
theorem dd_Mo_rings_20 : decode prog_7_method_14_code 20 = .ok (.iload 5, 2) := by decide +kernel
theorem dd_Mo_rings_22 : decode prog_7_method_14_code 22 = .ok (.bipush 7, 2) := by decide +kernel
theorem dd_Mo_rings_24 : decode prog_7_method_14_code 24 = .ok (.if_icmp .ge (75), 3) := by decide +kernel
theorem dd_Mo_rings_27 : decode prog_7_method_14_code 27 = .ok (.iconst 0, 1) := by decide +kernel
theorem dd_Mo_rings_28 : decode prog_7_method_14_code 28 = .ok (.istore 6, 2) := by decide +kernel
theorem dd_Mo_rings_30 : decode prog_7_method_14_code 30 = .ok (.iconst 0, 1) := by decide +kernel
theorem dd_Mo_rings_31 : decode prog_7_method_14_code 31 = .ok (.istore 7, 2) := by decide +kernel
theorem dd_Mo_rings_33 : decode prog_7_method_14_code 33 = .ok (.iload 7, 2) := by decide +kernel
theorem dd_Mo_rings_35 : decode prog_7_method_14_code 35 = .ok (.bipush 36, 2) := by decide +kernel
theorem dd_Mo_rings_37 : decode prog_7_method_14_code 37 = .ok (.if_icmp .ge (44), 3) := by decide +kernel
theorem dd_Mo_rings_40 : decode prog_7_method_14_code 40 = .ok (.aload_n 0, 1) := by decide +kernel
theorem dd_Mo_rings_41 : decode prog_7_method_14_code 41 = .ok (.getfield 34, 3) := by decide +kernel
theorem dd_Mo_rings_44 : decode prog_7_method_14_code 44 = .ok (.iload 7, 2) := by decide +kernel
theorem dd_Mo_rings_46 : decode prog_7_method_14_code 46 = .ok (.baload, 1) := by decide +kernel
theorem dd_Mo_rings_47 : decode prog_7_method_14_code 47 = .ok (.ifCond .eq (28), 3) := by decide +kernel
theorem dd_Mo_rings_50 : decode prog_7_method_14_code 50 = .ok (.iload_n 3, 1) := by decide +kernel
theorem dd_Mo_rings_51 : decode prog_7_method_14_code 51 = .ok (.iload 7, 2) := by decide +kernel
theorem dd_Mo_rings_53 : decode prog_7_method_14_code 53 = .ok (.bipush 6, 2) := by decide +kernel
theorem dd_Mo_rings_55 : decode prog_7_method_14_code 55 = .ok (.idiv, 1) := by decide +kernel
theorem dd_Mo_rings_56 : decode prog_7_method_14_code 56 = .ok (.ishr, 1) := by decide +kernel
theorem dd_Mo_rings_57 : decode prog_7_method_14_code 57 = .ok (.iconst 1, 1) := by decide +kernel
theorem dd_Mo_rings_58 : decode prog_7_method_14_code 58 = .ok (.iand, 1) := by decide +kernel
theorem dd_Mo_rings_59 : decode prog_7_method_14_code 59 = .ok (.iconst 1, 1) := by decide +kernel
theorem dd_Mo_rings_60 : decode prog_7_method_14_code 60 = .ok (.if_icmp .ne (15), 3) := by decide +kernel
theorem dd_Mo_rings_63 : decode prog_7_method_14_code 63 = .ok (.iload 6, 2) := by decide +kernel
theorem dd_Mo_rings_65 : decode prog_7_method_14_code 65 = .ok (.iconst 1, 1) := by decide +kernel
theorem dd_Mo_rings_66 : decode prog_7_method_14_code 66 = .ok (.iload 7, 2) := by decide +kernel
theorem dd_Mo_rings_68 : decode prog_7_method_14_code 68 = .ok (.bipush 6, 2) := by decide +kernel
theorem dd_Mo_rings_70 : decode prog_7_method_14_code 70 = .ok (.irem, 1) := by decide +kernel
theorem dd_Mo_rings_71 : decode prog_7_method_14_code 71 = .ok (.ishl, 1) := by decide +kernel
theorem dd_Mo_rings_72 : decode prog_7_method_14_code 72 = .ok (.ior, 1) := by decide +kernel
theorem dd_Mo_rings_73 : decode prog_7_method_14_code 73 = .ok (.istore 6, 2) := by decide +kernel
theorem dd_Mo_rings_75 : decode prog_7_method_14_code 75 = .ok (.iinc 7 1, 3) := by decide +kernel
theorem dd_Mo_rings_78 : decode prog_7_method_14_code 78 = .ok (.goto (-45), 3) := by decide +kernel
theorem dd_Mo_rings_81 : decode prog_7_method_14_code 81 = .ok (.iload 4, 2) := by decide +kernel
theorem dd_Mo_rings_83 : decode prog_7_method_14_code 83 = .ok (.iload 6, 2) := by decide +kernel
theorem dd_Mo_rings_85 : decode prog_7_method_14_code 85 = .ok (.ior, 1) := by decide +kernel
theorem dd_Mo_rings_86 : decode prog_7_method_14_code 86 = .ok (.istore 4, 2) := by decide +kernel
theorem dd_Mo_rings_88 : decode prog_7_method_14_code 88 = .ok (.iload_n 3, 1) := by decide +kernel
theorem dd_Mo_rings_89 : decode prog_7_method_14_code 89 = .ok (.iload 6, 2) := by decide +kernel
theorem dd_Mo_rings_91 : decode prog_7_method_14_code 91 = .ok (.ior, 1) := by decide +kernel
theorem dd_Mo_rings_92 : decode prog_7_method_14_code 92 = .ok (.istore_n 3, 1) := by decide +kernel
theorem dd_Mo_rings_93 : decode prog_7_method_14_code 93 = .ok (.iinc 5 1, 3) := by decide +kernel
theorem dd_Mo_rings_96 : decode prog_7_method_14_code 96 = .ok (.goto (-76), 3) := by decide +kernel
theorem dd_Mo_rings_99 : decode prog_7_method_14_code 99 = .ok (.iload_n 1, 1) := by decide +kernel
theorem dd_Mo_rings_100 : decode prog_7_method_14_code 100 = .ok (.ifCond .ne (13), 3) := by decide +kernel
theorem dd_Mo_rings_103 : decode prog_7_method_14_code 103 = .ok (.iload 4, 2) := by decide +kernel
theorem dd_Mo_rings_105 : decode prog_7_method_14_code 105 = .ok (.iload_n 2, 1) := by decide +kernel
theorem dd_Mo_rings_106 : decode prog_7_method_14_code 106 = .ok (.ishr, 1) := by decide +kernel
theorem dd_Mo_rings_107 : decode prog_7_method_14_code 107 = .ok (.iconst 1, 1) := by decide +kernel
theorem dd_Mo_rings_108 : decode prog_7_method_14_code 108 = .ok (.iand, 1) := by decide +kernel
theorem dd_Mo_rings_109 : decode prog_7_method_14_code 109 = .ok (.iconst 1, 1) := by decide +kernel
theorem dd_Mo_rings_110 : decode prog_7_method_14_code 110 = .ok (.if_icmp .ne (7), 3) := by decide +kernel
theorem dd_Mo_rings_113 : decode prog_7_method_14_code 113 = .ok (.iconst 1, 1) := by decide +kernel
theorem dd_Mo_rings_114 : decode prog_7_method_14_code 114 = .ok (.goto (4), 3) := by decide +kernel
theorem dd_Mo_rings_117 : decode prog_7_method_14_code 117 = .ok (.iconst 0, 1) := by decide +kernel
theorem dd_Mo_rings_118 : decode prog_7_method_14_code 118 = .ok (.istore_n 1, 1) := by decide +kernel
theorem dd_Mo_rings_119 : decode prog_7_method_14_code 119 = .ok (.iinc 2 1, 3) := by decide +kernel
theorem dd_Mo_rings_122 : decode prog_7_method_14_code 122 = .ok (.goto (-118), 3) := by decide +kernel
theorem dd_Mo_rings_125 : decode prog_7_method_14_code 125 = .ok (.iload_n 1, 1) := by decide +kernel
theorem dd_Mo_rings_126 : decode prog_7_method_14_code 126 = .ok (.ireturn, 1) := by decide +kernel
theorem dd_Mo_end_0 : decode prog_7_method_15_code 0 = .ok (.aload_n 0, 1) := by decide +kernel
theorem dd_Mo_end_1 : decode prog_7_method_15_code 1 = .ok (.getfield 31, 3) := by decide +kernel
theorem dd_Mo_end_4 : decode prog_7_method_15_code 4 = .ok (.iload_n 1, 1) := by decide +kernel
theorem dd_Mo_end_5 : decode prog_7_method_15_code 5 = .ok (.iaload, 1) := by decide +kernel
theorem dd_Mo_end_6 : decode prog_7_method_15_code 6 = .ok (.istore_n 2, 1) := by decide +kernel
theorem dd_Mo_end_7 : decode prog_7_method_15_code 7 = .ok (.iconst 0, 1) := by decide +kernel
theorem dd_Mo_end_8 : decode prog_7_method_15_code 8 = .ok (.istore_n 3, 1) := by decide +kernel
theorem dd_Mo_end_9 : decode prog_7_method_15_code 9 = .ok (.iload_n 3, 1) := by decide +kernel
theorem dd_Mo_end_10 : decode prog_7_method_15_code 10 = .ok (.aload_n 0, 1) := by decide +kernel
theorem dd_Mo_end_11 : decode prog_7_method_15_code 11 = .ok (.getfield 7, 3) := by decide +kernel
theorem dd_Mo_end_14 : decode prog_7_method_15_code 14 = .ok (.iload_n 1, 1) := by decide +kernel
theorem dd_Mo_end_15 : decode prog_7_method_15_code 15 = .ok (.iaload, 1) := by decide +kernel
theorem dd_Mo_end_16 : decode prog_7_method_15_code 16 = .ok (.if_icmp .ge (23), 3) := by decide +kernel
theorem dd_Mo_end_19 : decode prog_7_method_15_code 19 = .ok (.iload_n 2, 1) := by decide +kernel
theorem dd_Mo_end_20 : decode prog_7_method_15_code 20 = .ok (.aload_n 0, 1) := by decide +kernel
theorem dd_Mo_end_21 : decode prog_7_method_15_code 21 = .ok (.getfield 16, 3) := by decide +kernel
theorem dd_Mo_end_24 : decode prog_7_method_15_code 24 = .ok (.bipush 6, 2) := by decide +kernel
theorem dd_Mo_end_26 : decode prog_7_method_15_code 26 = .ok (.iload_n 1, 1) := by decide +kernel
theorem dd_Mo_end_27 : decode prog_7_method_15_code 27 = .ok (.imul, 1) := by decide +kernel
theorem dd_Mo_end_28 : decode prog_7_method_15_code 28 = .ok (.iload_n 3, 1) := by decide +kernel
theorem dd_Mo_end_29 : decode prog_7_method_15_code 29 = .ok (.iadd, 1) := by decide +kernel
theorem dd_Mo_end_30 : decode prog_7_method_15_code 30 = .ok (.iaload, 1) := by decide +kernel
theorem dd_Mo_end_31 : decode prog_7_method_15_code 31 = .ok (.iadd, 1) := by decide +kernel
theorem dd_Mo_end_32 : decode prog_7_method_15_code 32 = .ok (.istore_n 2, 1) := by decide +kernel
theorem dd_Mo_end_33 : decode prog_7_method_15_code 33 = .ok (.iinc 3 1, 3) := by decide +kernel
theorem dd_Mo_end_36 : decode prog_7_method_15_code 36 = .ok (.goto (-27), 3) := by decide +kernel
theorem dd_Mo_end_39 : decode prog_7_method_15_code 39 = .ok (.iload_n 2, 1) := by decide +kernel
theorem dd_Mo_end_40 : decode prog_7_method_15_code 40 = .ok (.ireturn, 1) := by decide +kernel
theorem dd_Mo_framed_0 : decode prog_7_method_16_code 0 = .ok (.iconst 0, 1) := by decide +kernel
theorem dd_Mo_framed_1 : decode prog_7_method_16_code 1 = .ok (.istore_n 1, 1) := by decide +kernel
theorem dd_Mo_framed_2 : decode prog_7_method_16_code 2 = .ok (.iload_n 1, 1) := by decide +kernel
theorem dd_Mo_framed_3 : decode prog_7_method_16_code 3 = .ok (.bipush 6, 2) := by decide +kernel
theorem dd_Mo_framed_5 : decode prog_7_method_16_code 5 = .ok (.if_icmp .ge (16), 3) := by decide +kernel
theorem dd_Mo_framed_8 : decode prog_7_method_16_code 8 = .ok (.aload_n 0, 1) := by decide +kernel
theorem dd_Mo_framed_9 : decode prog_7_method_16_code 9 = .ok (.getfield 31, 3) := by decide +kernel
theorem dd_Mo_framed_12 : decode prog_7_method_16_code 12 = .ok (.iload_n 1, 1) := by decide +kernel
theorem dd_Mo_framed_13 : decode prog_7_method_16_code 13 = .ok (.iconst 0, 1) := by decide +kernel
theorem dd_Mo_framed_14 : decode prog_7_method_16_code 14 = .ok (.iastore, 1) := by decide +kernel
theorem dd_Mo_framed_15 : decode prog_7_method_16_code 15 = .ok (.iinc 1 1, 3) := by decide +kernel
theorem dd_Mo_framed_18 : decode prog_7_method_16_code 18 = .ok (.goto (-16), 3) := by decide +kernel
theorem dd_Mo_framed_21 : decode prog_7_method_16_code 21 = .ok (.iconst 0, 1) := by decide +kernel
theorem dd_Mo_framed_22 : decode prog_7_method_16_code 22 = .ok (.istore_n 1, 1) := by decide +kernel
theorem dd_Mo_framed_23 : decode prog_7_method_16_code 23 = .ok (.iload_n 1, 1) := by decide +kernel
theorem dd_Mo_framed_24 : decode prog_7_method_16_code 24 = .ok (.bipush 6, 2) := by decide +kernel
theorem dd_Mo_framed_26 : decode prog_7_method_16_code 26 = .ok (.if_icmp .ge (70), 3) := by decide +kernel
theorem dd_Mo_framed_29 : decode prog_7_method_16_code 29 = .ok (.iconst 0, 1) := by decide +kernel
theorem dd_Mo_framed_30 : decode prog_7_method_16_code 30 = .ok (.istore_n 2, 1) := by decide +kernel
theorem dd_Mo_framed_31 : decode prog_7_method_16_code 31 = .ok (.iload_n 2, 1) := by decide +kernel
theorem dd_Mo_framed_32 : decode prog_7_method_16_code 32 = .ok (.bipush 36, 2) := by decide +kernel
theorem dd_Mo_framed_34 : decode prog_7_method_16_code 34 = .ok (.if_icmp .ge (56), 3) := by decide +kernel
theorem dd_Mo_framed_37 : decode prog_7_method_16_code 37 = .ok (.iload_n 2, 1) := by decide +kernel
theorem dd_Mo_framed_38 : decode prog_7_method_16_code 38 = .ok (.bipush 6, 2) := by decide +kernel
theorem dd_Mo_framed_40 : decode prog_7_method_16_code 40 = .ok (.irem, 1) := by decide +kernel
theorem dd_Mo_framed_41 : decode prog_7_method_16_code 41 = .ok (.istore_n 3, 1) := by decide +kernel
theorem dd_Mo_framed_42 : decode prog_7_method_16_code 42 = .ok (.aload_n 0, 1) := by decide +kernel
theorem dd_Mo_framed_43 : decode prog_7_method_16_code 43 = .ok (.iload_n 2, 1) := by decide +kernel
theorem dd_Mo_framed_44 : decode prog_7_method_16_code 44 = .ok (.bipush 6, 2) := by decide +kernel
theorem dd_Mo_framed_46 : decode prog_7_method_16_code 46 = .ok (.idiv, 1) := by decide +kernel
theorem dd_Mo_framed_47 : decode prog_7_method_16_code 47 = .ok (.invokevirtual 102, 3) := by decide +kernel
theorem dd_Mo_framed_50 : decode prog_7_method_16_code 50 = .ok (.istore 4, 2) := by decide +kernel
theorem dd_Mo_framed_52 : decode prog_7_method_16_code 52 = .ok (.aload_n 0, 1) := by decide +kernel
theorem dd_Mo_framed_53 : decode prog_7_method_16_code 53 = .ok (.getfield 34, 3) := by decide +kernel
theorem dd_Mo_framed_56 : decode prog_7_method_16_code 56 = .ok (.iload_n 2, 1) := by decide +kernel
theorem dd_Mo_framed_57 : decode prog_7_method_16_code 57 = .ok (.baload, 1) := by decide +kernel
theorem dd_Mo_framed_58 : decode prog_7_method_16_code 58 = .ok (.ifCond .eq (26), 3) := by decide +kernel
theorem dd_Mo_framed_61 : decode prog_7_method_16_code 61 = .ok (.iload_n 3, 1) := by decide +kernel
theorem dd_Mo_framed_62 : decode prog_7_method_16_code 62 = .ok (.ifCond .le (22), 3) := by decide +kernel
theorem dd_Mo_framed_65 : decode prog_7_method_16_code 65 = .ok (.aload_n 0, 1) := by decide +kernel
theorem dd_Mo_framed_66 : decode prog_7_method_16_code 66 = .ok (.getfield 31, 3) := by decide +kernel
theorem dd_Mo_framed_69 : decode prog_7_method_16_code 69 = .ok (.iload_n 3, 1) := by decide +kernel
theorem dd_Mo_framed_70 : decode prog_7_method_16_code 70 = .ok (.iaload, 1) := by decide +kernel
theorem dd_Mo_framed_71 : decode prog_7_method_16_code 71 = .ok (.iload 4, 2) := by decide +kernel
theorem dd_Mo_framed_73 : decode prog_7_method_16_code 73 = .ok (.if_icmp .ge (11), 3) := by decide +kernel
theorem dd_Mo_framed_76 : decode prog_7_method_16_code 76 = .ok (.aload_n 0, 1) := by decide +kernel
theorem dd_Mo_framed_77 : decode prog_7_method_16_code 77 = .ok (.getfield 31, 3) := by decide +kernel
theorem dd_Mo_framed_80 : decode prog_7_method_16_code 80 = .ok (.iload_n 3, 1) := by decide +kernel
theorem dd_Mo_framed_81 : decode prog_7_method_16_code 81 = .ok (.iload 4, 2) := by decide +kernel
theorem dd_Mo_framed_83 : decode prog_7_method_16_code 83 = .ok (.iastore, 1) := by decide +kernel
theorem dd_Mo_framed_84 : decode prog_7_method_16_code 84 = .ok (.iinc 2 1, 3) := by decide +kernel
theorem dd_Mo_framed_87 : decode prog_7_method_16_code 87 = .ok (.goto (-56), 3) := by decide +kernel
theorem dd_Mo_framed_90 : decode prog_7_method_16_code 90 = .ok (.iinc 1 1, 3) := by decide +kernel
theorem dd_Mo_framed_93 : decode prog_7_method_16_code 93 = .ok (.goto (-70), 3) := by decide +kernel
theorem dd_Mo_framed_96 : decode prog_7_method_16_code 96 = .ok (.iconst 1, 1) := by decide +kernel
theorem dd_Mo_framed_97 : decode prog_7_method_16_code 97 = .ok (.istore_n 1, 1) := by decide +kernel
theorem dd_Mo_framed_98 : decode prog_7_method_16_code 98 = .ok (.iconst 0, 1) := by decide +kernel
theorem dd_Mo_framed_99 : decode prog_7_method_16_code 99 = .ok (.istore_n 2, 1) := by decide +kernel
theorem dd_Mo_framed_100 : decode prog_7_method_16_code 100 = .ok (.iload_n 2, 1) := by decide +kernel
theorem dd_Mo_framed_101 : decode prog_7_method_16_code 101 = .ok (.aload_n 0, 1) := by decide +kernel
theorem dd_Mo_framed_102 : decode prog_7_method_16_code 102 = .ok (.getfield 72, 3) := by decide +kernel
theorem dd_Mo_framed_105 : decode prog_7_method_16_code 105 = .ok (.if_icmp .ge (31), 3) := by decide +kernel
theorem dd_Mo_framed_108 : decode prog_7_method_16_code 108 = .ok (.aload_n 0, 1) := by decide +kernel
theorem dd_Mo_framed_109 : decode prog_7_method_16_code 109 = .ok (.iload_n 2, 1) := by decide +kernel
theorem dd_Mo_framed_110 : decode prog_7_method_16_code 110 = .ok (.invokevirtual 102, 3) := by decide +kernel
theorem dd_Mo_framed_113 : decode prog_7_method_16_code 113 = .ok (.istore_n 3, 1) := by decide +kernel
theorem dd_Mo_framed_114 : decode prog_7_method_16_code 114 = .ok (.iload_n 1, 1) := by decide +kernel
theorem dd_Mo_framed_115 : decode prog_7_method_16_code 115 = .ok (.ifCond .eq (13), 3) := by decide +kernel
theorem dd_Mo_framed_118 : decode prog_7_method_16_code 118 = .ok (.iload_n 3, 1) := by decide +kernel
theorem dd_Mo_framed_119 : decode prog_7_method_16_code 119 = .ok (.bipush 120, 2) := by decide +kernel
theorem dd_Mo_framed_121 : decode prog_7_method_16_code 121 = .ok (.if_icmp .gt (7), 3) := by decide +kernel
theorem dd_Mo_framed_124 : decode prog_7_method_16_code 124 = .ok (.iconst 1, 1) := by decide +kernel
theorem dd_Mo_framed_125 : decode prog_7_method_16_code 125 = .ok (.goto (4), 3) := by decide +kernel
theorem dd_Mo_framed_128 : decode prog_7_method_16_code 128 = .ok (.iconst 0, 1) := by decide +kernel
theorem dd_Mo_framed_129 : decode prog_7_method_16_code 129 = .ok (.istore_n 1, 1) := by decide +kernel
theorem dd_Mo_framed_130 : decode prog_7_method_16_code 130 = .ok (.iinc 2 1, 3) := by decide +kernel
theorem dd_Mo_framed_133 : decode prog_7_method_16_code 133 = .ok (.goto (-33), 3) := by decide +kernel
theorem dd_Mo_framed_136 : decode prog_7_method_16_code 136 = .ok (.iload_n 1, 1) := by decide +kernel
theorem dd_Mo_framed_137 : decode prog_7_method_16_code 137 = .ok (.ireturn, 1) := by decide +kernel
theorem dd_Mo_place_0 : decode prog_7_method_17_code 0 = .ok (.aload_n 0, 1) := by decide +kernel
theorem dd_Mo_place_1 : decode prog_7_method_17_code 1 = .ok (.getfield 31, 3) := by decide +kernel
theorem dd_Mo_place_4 : decode prog_7_method_17_code 4 = .ok (.iload_n 1, 1) := by decide +kernel
theorem dd_Mo_place_5 : decode prog_7_method_17_code 5 = .ok (.iaload, 1) := by decide +kernel
theorem dd_Mo_place_6 : decode prog_7_method_17_code 6 = .ok (.istore_n 3, 1) := by decide +kernel
theorem dd_Mo_place_7 : decode prog_7_method_17_code 7 = .ok (.iconst 0, 1) := by decide +kernel
theorem dd_Mo_place_8 : decode prog_7_method_17_code 8 = .ok (.istore 4, 2) := by decide +kernel
theorem dd_Mo_place_10 : decode prog_7_method_17_code 10 = .ok (.iload 4, 2) := by decide +kernel
theorem dd_Mo_place_12 : decode prog_7_method_17_code 12 = .ok (.iload_n 2, 1) := by decide +kernel
theorem dd_Mo_place_13 : decode prog_7_method_17_code 13 = .ok (.if_icmp .ge (24), 3) := by decide +kernel
theorem dd_Mo_place_16 : decode prog_7_method_17_code 16 = .ok (.iload_n 3, 1) := by decide +kernel
theorem dd_Mo_place_17 : decode prog_7_method_17_code 17 = .ok (.aload_n 0, 1) := by decide +kernel
theorem dd_Mo_place_18 : decode prog_7_method_17_code 18 = .ok (.getfield 16, 3) := by decide +kernel
theorem dd_Mo_place_21 : decode prog_7_method_17_code 21 = .ok (.bipush 6, 2) := by decide +kernel
theorem dd_Mo_place_23 : decode prog_7_method_17_code 23 = .ok (.iload_n 1, 1) := by decide +kernel
theorem dd_Mo_place_24 : decode prog_7_method_17_code 24 = .ok (.imul, 1) := by decide +kernel
theorem dd_Mo_place_25 : decode prog_7_method_17_code 25 = .ok (.iload 4, 2) := by decide +kernel
theorem dd_Mo_place_27 : decode prog_7_method_17_code 27 = .ok (.iadd, 1) := by decide +kernel
theorem dd_Mo_place_28 : decode prog_7_method_17_code 28 = .ok (.iaload, 1) := by decide +kernel
theorem dd_Mo_place_29 : decode prog_7_method_17_code 29 = .ok (.iadd, 1) := by decide +kernel
theorem dd_Mo_place_30 : decode prog_7_method_17_code 30 = .ok (.istore_n 3, 1) := by decide +kernel
theorem dd_Mo_place_31 : decode prog_7_method_17_code 31 = .ok (.iinc 4 1, 3) := by decide +kernel
theorem dd_Mo_place_34 : decode prog_7_method_17_code 34 = .ok (.goto (-24), 3) := by decide +kernel
theorem dd_Mo_place_37 : decode prog_7_method_17_code 37 = .ok (.iload_n 3, 1) := by decide +kernel
theorem dd_Mo_place_38 : decode prog_7_method_17_code 38 = .ok (.ireturn, 1) := by decide +kernel
theorem dd_Mo_part_0 : decode prog_7_method_18_code 0 = .ok (.iload_n 3, 1) := by decide +kernel
theorem dd_Mo_part_1 : decode prog_7_method_18_code 1 = .ok (.iconst 1, 1) := by decide +kernel
theorem dd_Mo_part_2 : decode prog_7_method_18_code 2 = .ok (.if_icmp .ne (24), 3) := by decide +kernel
theorem dd_Mo_part_5 : decode prog_7_method_18_code 5 = .ok (.aload_n 0, 1) := by decide +kernel
theorem dd_Mo_part_6 : decode prog_7_method_18_code 6 = .ok (.getfield 16, 3) := by decide +kernel
theorem dd_Mo_part_9 : decode prog_7_method_18_code 9 = .ok (.bipush 6, 2) := by decide +kernel
theorem dd_Mo_part_11 : decode prog_7_method_18_code 11 = .ok (.iload_n 1, 1) := by decide +kernel
theorem dd_Mo_part_12 : decode prog_7_method_18_code 12 = .ok (.imul, 1) := by decide +kernel
theorem dd_Mo_part_13 : decode prog_7_method_18_code 13 = .ok (.iload_n 2, 1) := by decide +kernel
theorem dd_Mo_part_14 : decode prog_7_method_18_code 14 = .ok (.iadd, 1) := by decide +kernel
theorem dd_Mo_part_15 : decode prog_7_method_18_code 15 = .ok (.iaload, 1) := by decide +kernel
theorem dd_Mo_part_16 : decode prog_7_method_18_code 16 = .ok (.iconst 1, 1) := by decide +kernel
theorem dd_Mo_part_17 : decode prog_7_method_18_code 17 = .ok (.if_icmp .ne (9), 3) := by decide +kernel
theorem dd_Mo_part_20 : decode prog_7_method_18_code 20 = .ok (.sipush 256, 3) := by decide +kernel
theorem dd_Mo_part_23 : decode prog_7_method_18_code 23 = .ok (.goto (11), 3) := by decide +kernel
theorem dd_Mo_part_26 : decode prog_7_method_18_code 26 = .ok (.aload_n 0, 1) := by decide +kernel
theorem dd_Mo_part_27 : decode prog_7_method_18_code 27 = .ok (.iload_n 1, 1) := by decide +kernel
theorem dd_Mo_part_28 : decode prog_7_method_18_code 28 = .ok (.iload_n 2, 1) := by decide +kernel
theorem dd_Mo_part_29 : decode prog_7_method_18_code 29 = .ok (.invokevirtual 105, 3) := by decide +kernel
theorem dd_Mo_part_32 : decode prog_7_method_18_code 32 = .ok (.iload_n 3, 1) := by decide +kernel
theorem dd_Mo_part_33 : decode prog_7_method_18_code 33 = .ok (.iadd, 1) := by decide +kernel
theorem dd_Mo_part_34 : decode prog_7_method_18_code 34 = .ok (.ireturn, 1) := by decide +kernel
theorem dd_Mo_put_0 : decode prog_7_method_19_code 0 = .ok (.aload_n 0, 1) := by decide +kernel
theorem dd_Mo_put_1 : decode prog_7_method_19_code 1 = .ok (.getfield 38, 3) := by decide +kernel
theorem dd_Mo_put_4 : decode prog_7_method_19_code 4 = .ok (.aload_n 0, 1) := by decide +kernel
theorem dd_Mo_put_5 : decode prog_7_method_19_code 5 = .ok (.getfield 109, 3) := by decide +kernel
theorem dd_Mo_put_8 : decode prog_7_method_19_code 8 = .ok (.iload_n 1, 1) := by decide +kernel
theorem dd_Mo_put_9 : decode prog_7_method_19_code 9 = .ok (.sipush 255, 3) := by decide +kernel
theorem dd_Mo_put_12 : decode prog_7_method_19_code 12 = .ok (.iand, 1) := by decide +kernel
theorem dd_Mo_put_13 : decode prog_7_method_19_code 13 = .ok (.iastore, 1) := by decide +kernel
theorem dd_Mo_put_14 : decode prog_7_method_19_code 14 = .ok (.aload_n 0, 1) := by decide +kernel
theorem dd_Mo_put_15 : decode prog_7_method_19_code 15 = .ok (.dup, 1) := by decide +kernel
theorem dd_Mo_put_16 : decode prog_7_method_19_code 16 = .ok (.getfield 109, 3) := by decide +kernel
theorem dd_Mo_put_19 : decode prog_7_method_19_code 19 = .ok (.iconst 1, 1) := by decide +kernel
theorem dd_Mo_put_20 : decode prog_7_method_19_code 20 = .ok (.iadd, 1) := by decide +kernel
theorem dd_Mo_put_21 : decode prog_7_method_19_code 21 = .ok (.putfield 109, 3) := by decide +kernel
theorem dd_Mo_put_24 : decode prog_7_method_19_code 24 = .ok (.return_, 1) := by decide +kernel
theorem dd_Mo_plain_0 : decode prog_7_method_20_code 0 = .ok (.aload_n 0, 1) := by decide +kernel
theorem dd_Mo_plain_1 : decode prog_7_method_20_code 1 = .ok (.bipush 8, 2) := by decide +kernel
theorem dd_Mo_plain_3 : decode prog_7_method_20_code 3 = .ok (.iload_n 1, 1) := by decide +kernel
theorem dd_Mo_plain_4 : decode prog_7_method_20_code 4 = .ok (.imul, 1) := by decide +kernel
theorem dd_Mo_plain_5 : decode prog_7_method_20_code 5 = .ok (.invokevirtual 112, 3) := by decide +kernel
theorem dd_Mo_plain_8 : decode prog_7_method_20_code 8 = .ok (.aload_n 0, 1) := by decide +kernel
theorem dd_Mo_plain_9 : decode prog_7_method_20_code 9 = .ok (.dup, 1) := by decide +kernel
theorem dd_Mo_plain_10 : decode prog_7_method_20_code 10 = .ok (.getfield 116, 3) := by decide +kernel
theorem dd_Mo_plain_13 : decode prog_7_method_20_code 13 = .ok (.iconst 1, 1) := by decide +kernel
theorem dd_Mo_plain_14 : decode prog_7_method_20_code 14 = .ok (.iadd, 1) := by decide +kernel
theorem dd_Mo_plain_15 : decode prog_7_method_20_code 15 = .ok (.putfield 116, 3) := by decide +kernel
theorem dd_Mo_plain_18 : decode prog_7_method_20_code 18 = .ok (.return_, 1) := by decide +kernel
