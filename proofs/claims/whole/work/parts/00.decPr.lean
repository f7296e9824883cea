theorem dd_Pr_addFunction_0 : decode prog_5_method_2_code 0 = .ok (.aload_n 0, 1) := by decide +kernel
theorem dd_Pr_addFunction_1 : decode prog_5_method_2_code 1 = .ok (.getfield 41, 3) := by decide +kernel
theorem dd_Pr_addFunction_4 : decode prog_5_method_2_code 4 = .ok (.bipush 6, 2) := by decide +kernel
theorem dd_Pr_addFunction_6 : decode prog_5_method_2_code 6 = .ok (.if_icmp .lt (5), 3) := by decide +kernel
theorem dd_Pr_addFunction_9 : decode prog_5_method_2_code 9 = .ok (.iconst (-1), 1) := by decide +kernel
theorem dd_Pr_addFunction_10 : decode prog_5_method_2_code 10 = .ok (.ireturn, 1) := by decide +kernel
theorem dd_Pr_addFunction_11 : decode prog_5_method_2_code 11 = .ok (.aload_n 0, 1) := by decide +kernel
theorem dd_Pr_addFunction_12 : decode prog_5_method_2_code 12 = .ok (.getfield 20, 3) := by decide +kernel
theorem dd_Pr_addFunction_15 : decode prog_5_method_2_code 15 = .ok (.aload_n 0, 1) := by decide +kernel
theorem dd_Pr_addFunction_16 : decode prog_5_method_2_code 16 = .ok (.getfield 41, 3) := by decide +kernel
theorem dd_Pr_addFunction_19 : decode prog_5_method_2_code 19 = .ok (.aload_n 0, 1) := by decide +kernel
theorem dd_Pr_addFunction_20 : decode prog_5_method_2_code 20 = .ok (.getfield 45, 3) := by decide +kernel
theorem dd_Pr_addFunction_23 : decode prog_5_method_2_code 23 = .ok (.iastore, 1) := by decide +kernel
theorem dd_Pr_addFunction_24 : decode prog_5_method_2_code 24 = .ok (.aload_n 0, 1) := by decide +kernel
theorem dd_Pr_addFunction_25 : decode prog_5_method_2_code 25 = .ok (.dup, 1) := by decide +kernel
theorem dd_Pr_addFunction_26 : decode prog_5_method_2_code 26 = .ok (.getfield 41, 3) := by decide +kernel
theorem dd_Pr_addFunction_29 : decode prog_5_method_2_code 29 = .ok (.iconst 1, 1) := by decide +kernel
theorem dd_Pr_addFunction_30 : decode prog_5_method_2_code 30 = .ok (.iadd, 1) := by decide +kernel
theorem dd_Pr_addFunction_31 : decode prog_5_method_2_code 31 = .ok (.putfield 41, 3) := by decide +kernel
theorem dd_Pr_addFunction_34 : decode prog_5_method_2_code 34 = .ok (.aload_n 0, 1) := by decide +kernel
theorem dd_Pr_addFunction_35 : decode prog_5_method_2_code 35 = .ok (.getfield 41, 3) := by decide +kernel
theorem dd_Pr_addFunction_38 : decode prog_5_method_2_code 38 = .ok (.iconst 1, 1) := by decide +kernel
theorem dd_Pr_addFunction_39 : decode prog_5_method_2_code 39 = .ok (.isub, 1) := by decide +kernel
theorem dd_Pr_addFunction_40 : decode prog_5_method_2_code 40 = .ok (.ireturn, 1) := by decide +kernel
theorem dd_Pr_addVariable_0 : decode prog_5_method_3_code 0 = .ok (.aload_n 0, 1) := by decide +kernel
theorem dd_Pr_addVariable_1 : decode prog_5_method_3_code 1 = .ok (.getfield 41, 3) := by decide +kernel
theorem dd_Pr_addVariable_4 : decode prog_5_method_3_code 4 = .ok (.iconst 1, 1) := by decide +kernel
theorem dd_Pr_addVariable_5 : decode prog_5_method_3_code 5 = .ok (.isub, 1) := by decide +kernel
theorem dd_Pr_addVariable_6 : decode prog_5_method_3_code 6 = .ok (.istore_n 2, 1) := by decide +kernel
theorem dd_Pr_addVariable_7 : decode prog_5_method_3_code 7 = .ok (.iload_n 2, 1) := by decide +kernel
theorem dd_Pr_addVariable_8 : decode prog_5_method_3_code 8 = .ok (.ifCond .lt (25), 3) := by decide +kernel
theorem dd_Pr_addVariable_11 : decode prog_5_method_3_code 11 = .ok (.iload_n 1, 1) := by decide +kernel
theorem dd_Pr_addVariable_12 : decode prog_5_method_3_code 12 = .ok (.iconst 1, 1) := by decide +kernel
theorem dd_Pr_addVariable_13 : decode prog_5_method_3_code 13 = .ok (.if_icmp .lt (20), 3) := by decide +kernel
theorem dd_Pr_addVariable_16 : decode prog_5_method_3_code 16 = .ok (.iload_n 1, 1) := by decide +kernel
theorem dd_Pr_addVariable_17 : decode prog_5_method_3_code 17 = .ok (.bipush 8, 2) := by decide +kernel
theorem dd_Pr_addVariable_19 : decode prog_5_method_3_code 19 = .ok (.if_icmp .gt (14), 3) := by decide +kernel
theorem dd_Pr_addVariable_22 : decode prog_5_method_3_code 22 = .ok (.aload_n 0, 1) := by decide +kernel
theorem dd_Pr_addVariable_23 : decode prog_5_method_3_code 23 = .ok (.getfield 16, 3) := by decide +kernel
theorem dd_Pr_addVariable_26 : decode prog_5_method_3_code 26 = .ok (.iload_n 2, 1) := by decide +kernel
theorem dd_Pr_addVariable_27 : decode prog_5_method_3_code 27 = .ok (.iaload, 1) := by decide +kernel
theorem dd_Pr_addVariable_28 : decode prog_5_method_3_code 28 = .ok (.bipush 6, 2) := by decide +kernel
theorem dd_Pr_addVariable_30 : decode prog_5_method_3_code 30 = .ok (.if_icmp .lt (5), 3) := by decide +kernel
theorem dd_Pr_addVariable_33 : decode prog_5_method_3_code 33 = .ok (.iconst (-1), 1) := by decide +kernel
theorem dd_Pr_addVariable_34 : decode prog_5_method_3_code 34 = .ok (.ireturn, 1) := by decide +kernel
theorem dd_Pr_addVariable_35 : decode prog_5_method_3_code 35 = .ok (.aload_n 0, 1) := by decide +kernel
theorem dd_Pr_addVariable_36 : decode prog_5_method_3_code 36 = .ok (.getfield 16, 3) := by decide +kernel
theorem dd_Pr_addVariable_39 : decode prog_5_method_3_code 39 = .ok (.iload_n 2, 1) := by decide +kernel
theorem dd_Pr_addVariable_40 : decode prog_5_method_3_code 40 = .ok (.iaload, 1) := by decide +kernel
theorem dd_Pr_addVariable_41 : decode prog_5_method_3_code 41 = .ok (.istore_n 3, 1) := by decide +kernel
theorem dd_Pr_addVariable_42 : decode prog_5_method_3_code 42 = .ok (.aload_n 0, 1) := by decide +kernel
theorem dd_Pr_addVariable_43 : decode prog_5_method_3_code 43 = .ok (.getfield 11, 3) := by decide +kernel
theorem dd_Pr_addVariable_46 : decode prog_5_method_3_code 46 = .ok (.iload_n 2, 1) := by decide +kernel
theorem dd_Pr_addVariable_47 : decode prog_5_method_3_code 47 = .ok (.aaload, 1) := by decide +kernel
theorem dd_Pr_addVariable_48 : decode prog_5_method_3_code 48 = .ok (.iload_n 3, 1) := by decide +kernel
theorem dd_Pr_addVariable_49 : decode prog_5_method_3_code 49 = .ok (.iload_n 1, 1) := by decide +kernel
theorem dd_Pr_addVariable_50 : decode prog_5_method_3_code 50 = .ok (.iastore, 1) := by decide +kernel
theorem dd_Pr_addVariable_51 : decode prog_5_method_3_code 51 = .ok (.aload_n 0, 1) := by decide +kernel
theorem dd_Pr_addVariable_52 : decode prog_5_method_3_code 52 = .ok (.getfield 16, 3) := by decide +kernel
theorem dd_Pr_addVariable_55 : decode prog_5_method_3_code 55 = .ok (.iload_n 2, 1) := by decide +kernel
theorem dd_Pr_addVariable_56 : decode prog_5_method_3_code 56 = .ok (.dup2, 1) := by decide +kernel
theorem dd_Pr_addVariable_57 : decode prog_5_method_3_code 57 = .ok (.iaload, 1) := by decide +kernel
theorem dd_Pr_addVariable_58 : decode prog_5_method_3_code 58 = .ok (.iconst 1, 1) := by decide +kernel
theorem dd_Pr_addVariable_59 : decode prog_5_method_3_code 59 = .ok (.iadd, 1) := by decide +kernel
theorem dd_Pr_addVariable_60 : decode prog_5_method_3_code 60 = .ok (.iastore, 1) := by decide +kernel
theorem dd_Pr_addVariable_61 : decode prog_5_method_3_code 61 = .ok (.iload_n 3, 1) := by decide +kernel
theorem dd_Pr_addVariable_62 : decode prog_5_method_3_code 62 = .ok (.ireturn, 1) := by decide +kernel
theorem dd_Pr_addInstruction_0 : decode prog_5_method_4_code 0 = .ok (.aload_n 0, 1) := by decide +kernel
theorem dd_Pr_addInstruction_1 : decode prog_5_method_4_code 1 = .ok (.getfield 41, 3) := by decide +kernel
theorem dd_Pr_addInstruction_4 : decode prog_5_method_4_code 4 = .ok (.iconst 1, 1) := by decide +kernel
theorem dd_Pr_addInstruction_5 : decode prog_5_method_4_code 5 = .ok (.isub, 1) := by decide +kernel
theorem dd_Pr_addInstruction_6 : decode prog_5_method_4_code 6 = .ok (.istore 5, 2) := by decide +kernel
theorem dd_Pr_addInstruction_8 : decode prog_5_method_4_code 8 = .ok (.iload 5, 2) := by decide +kernel
theorem dd_Pr_addInstruction_10 : decode prog_5_method_4_code 10 = .ok (.ifCond .lt (24), 3) := by decide +kernel
theorem dd_Pr_addInstruction_13 : decode prog_5_method_4_code 13 = .ok (.aload_n 0, 1) := by decide +kernel
theorem dd_Pr_addInstruction_14 : decode prog_5_method_4_code 14 = .ok (.getfield 23, 3) := by decide +kernel
theorem dd_Pr_addInstruction_17 : decode prog_5_method_4_code 17 = .ok (.iload 5, 2) := by decide +kernel
theorem dd_Pr_addInstruction_19 : decode prog_5_method_4_code 19 = .ok (.iaload, 1) := by decide +kernel
theorem dd_Pr_addInstruction_20 : decode prog_5_method_4_code 20 = .ok (.bipush 24, 2) := by decide +kernel
theorem dd_Pr_addInstruction_22 : decode prog_5_method_4_code 22 = .ok (.if_icmp .ge (12), 3) := by decide +kernel
theorem dd_Pr_addInstruction_25 : decode prog_5_method_4_code 25 = .ok (.aload_n 0, 1) := by decide +kernel
theorem dd_Pr_addInstruction_26 : decode prog_5_method_4_code 26 = .ok (.getfield 45, 3) := by decide +kernel
theorem dd_Pr_addInstruction_29 : decode prog_5_method_4_code 29 = .ok (.bipush 60, 2) := by decide +kernel
theorem dd_Pr_addInstruction_31 : decode prog_5_method_4_code 31 = .ok (.if_icmp .lt (5), 3) := by decide +kernel
theorem dd_Pr_addInstruction_34 : decode prog_5_method_4_code 34 = .ok (.iconst (-1), 1) := by decide +kernel
theorem dd_Pr_addInstruction_35 : decode prog_5_method_4_code 35 = .ok (.ireturn, 1) := by decide +kernel
theorem dd_Pr_addInstruction_36 : decode prog_5_method_4_code 36 = .ok (.iload_n 1, 1) := by decide +kernel
theorem dd_Pr_addInstruction_37 : decode prog_5_method_4_code 37 = .ok (.ifCond .lt (9), 3) := by decide +kernel
theorem dd_Pr_addInstruction_40 : decode prog_5_method_4_code 40 = .ok (.iload_n 1, 1) := by decide +kernel
theorem dd_Pr_addInstruction_41 : decode prog_5_method_4_code 41 = .ok (.bipush 15, 2) := by decide +kernel
theorem dd_Pr_addInstruction_43 : decode prog_5_method_4_code 43 = .ok (.if_icmp .le (5), 3) := by decide +kernel
theorem dd_Pr_addInstruction_46 : decode prog_5_method_4_code 46 = .ok (.iconst (-1), 1) := by decide +kernel
theorem dd_Pr_addInstruction_47 : decode prog_5_method_4_code 47 = .ok (.ireturn, 1) := by decide +kernel
theorem dd_Pr_addInstruction_48 : decode prog_5_method_4_code 48 = .ok (.aload_n 0, 1) := by decide +kernel
theorem dd_Pr_addInstruction_49 : decode prog_5_method_4_code 49 = .ok (.getstatic 48, 3) := by decide +kernel
theorem dd_Pr_addInstruction_52 : decode prog_5_method_4_code 52 = .ok (.iconst 3, 1) := by decide +kernel
theorem dd_Pr_addInstruction_53 : decode prog_5_method_4_code 53 = .ok (.iload_n 1, 1) := by decide +kernel
theorem dd_Pr_addInstruction_54 : decode prog_5_method_4_code 54 = .ok (.imul, 1) := by decide +kernel
theorem dd_Pr_addInstruction_55 : decode prog_5_method_4_code 55 = .ok (.iaload, 1) := by decide +kernel
theorem dd_Pr_addInstruction_56 : decode prog_5_method_4_code 56 = .ok (.iload_n 2, 1) := by decide +kernel
theorem dd_Pr_addInstruction_57 : decode prog_5_method_4_code 57 = .ok (.invokevirtual 51, 3) := by decide +kernel
theorem dd_Pr_addInstruction_60 : decode prog_5_method_4_code 60 = .ok (.ifCond .eq (38), 3) := by decide +kernel
theorem dd_Pr_addInstruction_63 : decode prog_5_method_4_code 63 = .ok (.aload_n 0, 1) := by decide +kernel
theorem dd_Pr_addInstruction_64 : decode prog_5_method_4_code 64 = .ok (.getstatic 48, 3) := by decide +kernel
theorem dd_Pr_addInstruction_67 : decode prog_5_method_4_code 67 = .ok (.iconst 3, 1) := by decide +kernel
theorem dd_Pr_addInstruction_68 : decode prog_5_method_4_code 68 = .ok (.iload_n 1, 1) := by decide +kernel
theorem dd_Pr_addInstruction_69 : decode prog_5_method_4_code 69 = .ok (.imul, 1) := by decide +kernel
theorem dd_Pr_addInstruction_70 : decode prog_5_method_4_code 70 = .ok (.iconst 1, 1) := by decide +kernel
theorem dd_Pr_addInstruction_71 : decode prog_5_method_4_code 71 = .ok (.iadd, 1) := by decide +kernel
theorem dd_Pr_addInstruction_72 : decode prog_5_method_4_code 72 = .ok (.iaload, 1) := by decide +kernel
theorem dd_Pr_addInstruction_73 : decode prog_5_method_4_code 73 = .ok (.iload_n 3, 1) := by decide +kernel
theorem dd_Pr_addInstruction_74 : decode prog_5_method_4_code 74 = .ok (.invokevirtual 51, 3) := by decide +kernel
theorem dd_Pr_addInstruction_77 : decode prog_5_method_4_code 77 = .ok (.ifCond .eq (21), 3) := by decide +kernel
theorem dd_Pr_addInstruction_80 : decode prog_5_method_4_code 80 = .ok (.aload_n 0, 1) := by decide +kernel
theorem dd_Pr_addInstruction_81 : decode prog_5_method_4_code 81 = .ok (.getstatic 48, 3) := by decide +kernel
theorem dd_Pr_addInstruction_84 : decode prog_5_method_4_code 84 = .ok (.iconst 3, 1) := by decide +kernel
theorem dd_Pr_addInstruction_85 : decode prog_5_method_4_code 85 = .ok (.iload_n 1, 1) := by decide +kernel
theorem dd_Pr_addInstruction_86 : decode prog_5_method_4_code 86 = .ok (.imul, 1) := by decide +kernel
theorem dd_Pr_addInstruction_87 : decode prog_5_method_4_code 87 = .ok (.iconst 2, 1) := by decide +kernel
theorem dd_Pr_addInstruction_88 : decode prog_5_method_4_code 88 = .ok (.iadd, 1) := by decide +kernel
theorem dd_Pr_addInstruction_89 : decode prog_5_method_4_code 89 = .ok (.iaload, 1) := by decide +kernel
theorem dd_Pr_addInstruction_90 : decode prog_5_method_4_code 90 = .ok (.iload 4, 2) := by decide +kernel
theorem dd_Pr_addInstruction_92 : decode prog_5_method_4_code 92 = .ok (.invokevirtual 51, 3) := by decide +kernel
theorem dd_Pr_addInstruction_95 : decode prog_5_method_4_code 95 = .ok (.ifCond .ne (5), 3) := by decide +kernel
theorem dd_Pr_addInstruction_98 : decode prog_5_method_4_code 98 = .ok (.iconst (-1), 1) := by decide +kernel
theorem dd_Pr_addInstruction_99 : decode prog_5_method_4_code 99 = .ok (.ireturn, 1) := by decide +kernel
theorem dd_Pr_addInstruction_100 : decode prog_5_method_4_code 100 = .ok (.aload_n 0, 1) := by decide +kernel
theorem dd_Pr_addInstruction_101 : decode prog_5_method_4_code 101 = .ok (.getfield 26, 3) := by decide +kernel
theorem dd_Pr_addInstruction_104 : decode prog_5_method_4_code 104 = .ok (.aload_n 0, 1) := by decide +kernel
theorem dd_Pr_addInstruction_105 : decode prog_5_method_4_code 105 = .ok (.getfield 45, 3) := by decide +kernel
theorem dd_Pr_addInstruction_108 : decode prog_5_method_4_code 108 = .ok (.iload 5, 2) := by decide +kernel
theorem dd_Pr_addInstruction_110 : decode prog_5_method_4_code 110 = .ok (.iastore, 1) := by decide +kernel
theorem dd_Pr_addInstruction_111 : decode prog_5_method_4_code 111 = .ok (.aload_n 0, 1) := by decide +kernel
theorem dd_Pr_addInstruction_112 : decode prog_5_method_4_code 112 = .ok (.getfield 29, 3) := by decide +kernel
theorem dd_Pr_addInstruction_115 : decode prog_5_method_4_code 115 = .ok (.aload_n 0, 1) := by decide +kernel
theorem dd_Pr_addInstruction_116 : decode prog_5_method_4_code 116 = .ok (.getfield 45, 3) := by decide +kernel
theorem dd_Pr_addInstruction_119 : decode prog_5_method_4_code 119 = .ok (.iload_n 1, 1) := by decide +kernel
theorem dd_Pr_addInstruction_120 : decode prog_5_method_4_code 120 = .ok (.iastore, 1) := by decide +kernel
theorem dd_Pr_addInstruction_121 : decode prog_5_method_4_code 121 = .ok (.aload_n 0, 1) := by decide +kernel
theorem dd_Pr_addInstruction_122 : decode prog_5_method_4_code 122 = .ok (.getfield 32, 3) := by decide +kernel
theorem dd_Pr_addInstruction_125 : decode prog_5_method_4_code 125 = .ok (.aload_n 0, 1) := by decide +kernel
theorem dd_Pr_addInstruction_126 : decode prog_5_method_4_code 126 = .ok (.getfield 45, 3) := by decide +kernel
theorem dd_Pr_addInstruction_129 : decode prog_5_method_4_code 129 = .ok (.iload_n 2, 1) := by decide +kernel
theorem dd_Pr_addInstruction_130 : decode prog_5_method_4_code 130 = .ok (.iastore, 1) := by decide +kernel
theorem dd_Pr_addInstruction_131 : decode prog_5_method_4_code 131 = .ok (.aload_n 0, 1) := by decide +kernel
theorem dd_Pr_addInstruction_132 : decode prog_5_method_4_code 132 = .ok (.getfield 35, 3) := by decide +kernel
theorem dd_Pr_addInstruction_135 : decode prog_5_method_4_code 135 = .ok (.aload_n 0, 1) := by decide +kernel
theorem dd_Pr_addInstruction_136 : decode prog_5_method_4_code 136 = .ok (.getfield 45, 3) := by decide +kernel
theorem dd_Pr_addInstruction_139 : decode prog_5_method_4_code 139 = .ok (.iload_n 3, 1) := by decide +kernel
theorem dd_Pr_addInstruction_140 : decode prog_5_method_4_code 140 = .ok (.iastore, 1) := by decide +kernel
theorem dd_Pr_addInstruction_141 : decode prog_5_method_4_code 141 = .ok (.aload_n 0, 1) := by decide +kernel
theorem dd_Pr_addInstruction_142 : decode prog_5_method_4_code 142 = .ok (.getfield 38, 3) := by decide +kernel
theorem dd_Pr_addInstruction_145 : decode prog_5_method_4_code 145 = .ok (.aload_n 0, 1) := by decide +kernel
theorem dd_Pr_addInstruction_146 : decode prog_5_method_4_code 146 = .ok (.getfield 45, 3) := by decide +kernel
theorem dd_Pr_addInstruction_149 : decode prog_5_method_4_code 149 = .ok (.iload 4, 2) := by decide +kernel
theorem dd_Pr_addInstruction_151 : decode prog_5_method_4_code 151 = .ok (.iastore, 1) := by decide +kernel
theorem dd_Pr_addInstruction_152 : decode prog_5_method_4_code 152 = .ok (.aload_n 0, 1) := by decide +kernel
theorem dd_Pr_addInstruction_153 : decode prog_5_method_4_code 153 = .ok (.dup, 1) := by decide +kernel
theorem dd_Pr_addInstruction_154 : decode prog_5_method_4_code 154 = .ok (.getfield 45, 3) := by decide +kernel
theorem dd_Pr_addInstruction_157 : decode prog_5_method_4_code 157 = .ok (.iconst 1, 1) := by decide +kernel
theorem dd_Pr_addInstruction_158 : decode prog_5_method_4_code 158 = .ok (.iadd, 1) := by decide +kernel
theorem dd_Pr_addInstruction_159 : decode prog_5_method_4_code 159 = .ok (.putfield 45, 3) := by decide +kernel
theorem dd_Pr_addInstruction_162 : decode prog_5_method_4_code 162 = .ok (.aload_n 0, 1) := by decide +kernel
theorem dd_Pr_addInstruction_163 : decode prog_5_method_4_code 163 = .ok (.getfield 23, 3) := by decide +kernel
theorem dd_Pr_addInstruction_166 : decode prog_5_method_4_code 166 = .ok (.iload 5, 2) := by decide +kernel
theorem dd_Pr_addInstruction_168 : decode prog_5_method_4_code 168 = .ok (.dup2, 1) := by decide +kernel
theorem dd_Pr_addInstruction_169 : decode prog_5_method_4_code 169 = .ok (.iaload, 1) := by decide +kernel
theorem dd_Pr_addInstruction_170 : decode prog_5_method_4_code 170 = .ok (.iconst 1, 1) := by decide +kernel
theorem dd_Pr_addInstruction_171 : decode prog_5_method_4_code 171 = .ok (.iadd, 1) := by decide +kernel
theorem dd_Pr_addInstruction_172 : decode prog_5_method_4_code 172 = .ok (.iastore, 1) := by decide +kernel
theorem dd_Pr_addInstruction_173 : decode prog_5_method_4_code 173 = .ok (.aload_n 0, 1) := by decide +kernel
theorem dd_Pr_addInstruction_174 : decode prog_5_method_4_code 174 = .ok (.getfield 23, 3) := by decide +kernel
theorem dd_Pr_addInstruction_177 : decode prog_5_method_4_code 177 = .ok (.iload 5, 2) := by decide +kernel
theorem dd_Pr_addInstruction_179 : decode prog_5_method_4_code 179 = .ok (.iaload, 1) := by decide +kernel
theorem dd_Pr_addInstruction_180 : decode prog_5_method_4_code 180 = .ok (.iconst 1, 1) := by decide +kernel
theorem dd_Pr_addInstruction_181 : decode prog_5_method_4_code 181 = .ok (.isub, 1) := by decide +kernel
theorem dd_Pr_addInstruction_182 : decode prog_5_method_4_code 182 = .ok (.ireturn, 1) := by decide +kernel
theorem dd_Pr_suits_0 : decode prog_5_method_5_code 0 = .ok (.aload_n 0, 1) := by decide +kernel
theorem dd_Pr_suits_1 : decode prog_5_method_5_code 1 = .ok (.aload_n 0, 1) := by decide +kernel
theorem dd_Pr_suits_2 : decode prog_5_method_5_code 2 = .ok (.getfield 41, 3) := by decide +kernel
theorem dd_Pr_suits_5 : decode prog_5_method_5_code 5 = .ok (.iconst 1, 1) := by decide +kernel
theorem dd_Pr_suits_6 : decode prog_5_method_5_code 6 = .ok (.isub, 1) := by decide +kernel
theorem dd_Pr_suits_7 : decode prog_5_method_5_code 7 = .ok (.iload_n 2, 1) := by decide +kernel
theorem dd_Pr_suits_8 : decode prog_5_method_5_code 8 = .ok (.invokevirtual 55, 3) := by decide +kernel
theorem dd_Pr_suits_11 : decode prog_5_method_5_code 11 = .ok (.istore_n 3, 1) := by decide +kernel
theorem dd_Pr_suits_12 : decode prog_5_method_5_code 12 = .ok (.iload_n 1, 1) := by decide +kernel
theorem dd_Pr_suits_13 : decode prog_5_method_5_code 13 = .ok (.tableswitch (74) (1) (4) #[31, 36, 47, 58], 31) := by decide +kernel
theorem dd_Pr_suits_44 : decode prog_5_method_5_code 44 = .ok (.iload_n 3, 1) := by decide +kernel
theorem dd_Pr_suits_45 : decode prog_5_method_5_code 45 = .ok (.invokestatic 59, 3) := by decide +kernel
theorem dd_Pr_suits_48 : decode prog_5_method_5_code 48 = .ok (.ireturn, 1) := by decide +kernel
theorem dd_Pr_suits_49 : decode prog_5_method_5_code 49 = .ok (.iload_n 3, 1) := by decide +kernel
theorem dd_Pr_suits_50 : decode prog_5_method_5_code 50 = .ok (.iconst 1, 1) := by decide +kernel
theorem dd_Pr_suits_51 : decode prog_5_method_5_code 51 = .ok (.if_icmp .ne (7), 3) := by decide +kernel
theorem dd_Pr_suits_54 : decode prog_5_method_5_code 54 = .ok (.iconst 1, 1) := by decide +kernel
theorem dd_Pr_suits_55 : decode prog_5_method_5_code 55 = .ok (.goto (4), 3) := by decide +kernel
theorem dd_Pr_suits_58 : decode prog_5_method_5_code 58 = .ok (.iconst 0, 1) := by decide +kernel
theorem dd_Pr_suits_59 : decode prog_5_method_5_code 59 = .ok (.ireturn, 1) := by decide +kernel
theorem dd_Pr_suits_60 : decode prog_5_method_5_code 60 = .ok (.iload_n 3, 1) := by decide +kernel
theorem dd_Pr_suits_61 : decode prog_5_method_5_code 61 = .ok (.iconst 2, 1) := by decide +kernel
theorem dd_Pr_suits_62 : decode prog_5_method_5_code 62 = .ok (.if_icmp .le (7), 3) := by decide +kernel
theorem dd_Pr_suits_65 : decode prog_5_method_5_code 65 = .ok (.iconst 1, 1) := by decide +kernel
theorem dd_Pr_suits_66 : decode prog_5_method_5_code 66 = .ok (.goto (4), 3) := by decide +kernel
theorem dd_Pr_suits_69 : decode prog_5_method_5_code 69 = .ok (.iconst 0, 1) := by decide +kernel
theorem dd_Pr_suits_70 : decode prog_5_method_5_code 70 = .ok (.ireturn, 1) := by decide +kernel
theorem dd_Pr_suits_71 : decode prog_5_method_5_code 71 = .ok (.iload_n 2, 1) := by decide +kernel
theorem dd_Pr_suits_72 : decode prog_5_method_5_code 72 = .ok (.ifCond .lt (13), 3) := by decide +kernel
theorem dd_Pr_suits_75 : decode prog_5_method_5_code 75 = .ok (.iload_n 2, 1) := by decide +kernel
theorem dd_Pr_suits_76 : decode prog_5_method_5_code 76 = .ok (.ldc 63, 2) := by decide +kernel
theorem dd_Pr_suits_78 : decode prog_5_method_5_code 78 = .ok (.if_icmp .gt (7), 3) := by decide +kernel
theorem dd_Pr_suits_81 : decode prog_5_method_5_code 81 = .ok (.iconst 1, 1) := by decide +kernel
theorem dd_Pr_suits_82 : decode prog_5_method_5_code 82 = .ok (.goto (4), 3) := by decide +kernel
theorem dd_Pr_suits_85 : decode prog_5_method_5_code 85 = .ok (.iconst 0, 1) := by decide +kernel
theorem dd_Pr_suits_86 : decode prog_5_method_5_code 86 = .ok (.ireturn, 1) := by decide +kernel
theorem dd_Pr_suits_87 : decode prog_5_method_5_code 87 = .ok (.iconst 1, 1) := by decide +kernel
theorem dd_Pr_suits_88 : decode prog_5_method_5_code 88 = .ok (.ireturn, 1) := by decide +kernel
theorem dd_Pr_isScalar_0 : decode prog_5_method_6_code 0 = .ok (.iload_n 0, 1) := by decide +kernel
theorem dd_Pr_isScalar_1 : decode prog_5_method_6_code 1 = .ok (.iconst 1, 1) := by decide +kernel
theorem dd_Pr_isScalar_2 : decode prog_5_method_6_code 2 = .ok (.if_icmp .eq (8), 3) := by decide +kernel
theorem dd_Pr_isScalar_5 : decode prog_5_method_6_code 5 = .ok (.iload_n 0, 1) := by decide +kernel
theorem dd_Pr_isScalar_6 : decode prog_5_method_6_code 6 = .ok (.iconst 2, 1) := by decide +kernel
theorem dd_Pr_isScalar_7 : decode prog_5_method_6_code 7 = .ok (.if_icmp .ne (7), 3) := by decide +kernel
theorem dd_Pr_isScalar_10 : decode prog_5_method_6_code 10 = .ok (.iconst 1, 1) := by decide +kernel
theorem dd_Pr_isScalar_11 : decode prog_5_method_6_code 11 = .ok (.goto (4), 3) := by decide +kernel
theorem dd_Pr_isScalar_14 : decode prog_5_method_6_code 14 = .ok (.iconst 0, 1) := by decide +kernel
theorem dd_Pr_isScalar_15 : decode prog_5_method_6_code 15 = .ok (.ireturn, 1) := by decide +kernel
theorem dd_Pr_hasFunction_0 : decode prog_5_method_7_code 0 = .ok (.iload_n 1, 1) := by decide +kernel
theorem dd_Pr_hasFunction_1 : decode prog_5_method_7_code 1 = .ok (.ifCond .lt (15), 3) := by decide +kernel
theorem dd_Pr_hasFunction_4 : decode prog_5_method_7_code 4 = .ok (.iload_n 1, 1) := by decide +kernel
theorem dd_Pr_hasFunction_5 : decode prog_5_method_7_code 5 = .ok (.aload_n 0, 1) := by decide +kernel
theorem dd_Pr_hasFunction_6 : decode prog_5_method_7_code 6 = .ok (.getfield 41, 3) := by decide +kernel
theorem dd_Pr_hasFunction_9 : decode prog_5_method_7_code 9 = .ok (.if_icmp .ge (7), 3) := by decide +kernel
theorem dd_Pr_hasFunction_12 : decode prog_5_method_7_code 12 = .ok (.iconst 1, 1) := by decide +kernel
theorem dd_Pr_hasFunction_13 : decode prog_5_method_7_code 13 = .ok (.goto (4), 3) := by decide +kernel
theorem dd_Pr_hasFunction_16 : decode prog_5_method_7_code 16 = .ok (.iconst 0, 1) := by decide +kernel
theorem dd_Pr_hasFunction_17 : decode prog_5_method_7_code 17 = .ok (.ireturn, 1) := by decide +kernel
theorem dd_Pr_hasInstruction_0 : decode prog_5_method_8_code 0 = .ok (.aload_n 0, 1) := by decide +kernel
theorem dd_Pr_hasInstruction_1 : decode prog_5_method_8_code 1 = .ok (.iload_n 1, 1) := by decide +kernel
theorem dd_Pr_hasInstruction_2 : decode prog_5_method_8_code 2 = .ok (.invokevirtual 64, 3) := by decide +kernel
theorem dd_Pr_hasInstruction_5 : decode prog_5_method_8_code 5 = .ok (.ifCond .eq (21), 3) := by decide +kernel
theorem dd_Pr_hasInstruction_8 : decode prog_5_method_8_code 8 = .ok (.iload_n 2, 1) := by decide +kernel
theorem dd_Pr_hasInstruction_9 : decode prog_5_method_8_code 9 = .ok (.ifCond .lt (17), 3) := by decide +kernel
theorem dd_Pr_hasInstruction_12 : decode prog_5_method_8_code 12 = .ok (.iload_n 2, 1) := by decide +kernel
theorem dd_Pr_hasInstruction_13 : decode prog_5_method_8_code 13 = .ok (.aload_n 0, 1) := by decide +kernel
theorem dd_Pr_hasInstruction_14 : decode prog_5_method_8_code 14 = .ok (.getfield 23, 3) := by decide +kernel
theorem dd_Pr_hasInstruction_17 : decode prog_5_method_8_code 17 = .ok (.iload_n 1, 1) := by decide +kernel
theorem dd_Pr_hasInstruction_18 : decode prog_5_method_8_code 18 = .ok (.iaload, 1) := by decide +kernel
theorem dd_Pr_hasInstruction_19 : decode prog_5_method_8_code 19 = .ok (.if_icmp .ge (7), 3) := by decide +kernel
theorem dd_Pr_hasInstruction_22 : decode prog_5_method_8_code 22 = .ok (.iconst 1, 1) := by decide +kernel
theorem dd_Pr_hasInstruction_23 : decode prog_5_method_8_code 23 = .ok (.goto (4), 3) := by decide +kernel
theorem dd_Pr_hasInstruction_26 : decode prog_5_method_8_code 26 = .ok (.iconst 0, 1) := by decide +kernel
theorem dd_Pr_hasInstruction_27 : decode prog_5_method_8_code 27 = .ok (.ireturn, 1) := by decide +kernel
theorem dd_Pr_sizeOf_0 : decode prog_5_method_9_code 0 = .ok (.iload_n 1, 1) := by decide +kernel
theorem dd_Pr_sizeOf_1 : decode prog_5_method_9_code 1 = .ok (.ifCond .lt (29), 3) := by decide +kernel
theorem dd_Pr_sizeOf_4 : decode prog_5_method_9_code 4 = .ok (.iload_n 1, 1) := by decide +kernel
theorem dd_Pr_sizeOf_5 : decode prog_5_method_9_code 5 = .ok (.aload_n 0, 1) := by decide +kernel
theorem dd_Pr_sizeOf_6 : decode prog_5_method_9_code 6 = .ok (.getfield 41, 3) := by decide +kernel
theorem dd_Pr_sizeOf_9 : decode prog_5_method_9_code 9 = .ok (.if_icmp .ge (21), 3) := by decide +kernel
theorem dd_Pr_sizeOf_12 : decode prog_5_method_9_code 12 = .ok (.iload_n 2, 1) := by decide +kernel
theorem dd_Pr_sizeOf_13 : decode prog_5_method_9_code 13 = .ok (.ifCond .lt (17), 3) := by decide +kernel
theorem dd_Pr_sizeOf_16 : decode prog_5_method_9_code 16 = .ok (.iload_n 2, 1) := by decide +kernel
theorem dd_Pr_sizeOf_17 : decode prog_5_method_9_code 17 = .ok (.aload_n 0, 1) := by decide +kernel
theorem dd_Pr_sizeOf_18 : decode prog_5_method_9_code 18 = .ok (.getfield 16, 3) := by decide +kernel
theorem dd_Pr_sizeOf_21 : decode prog_5_method_9_code 21 = .ok (.iload_n 1, 1) := by decide +kernel
theorem dd_Pr_sizeOf_22 : decode prog_5_method_9_code 22 = .ok (.iaload, 1) := by decide +kernel
theorem dd_Pr_sizeOf_23 : decode prog_5_method_9_code 23 = .ok (.if_icmp .ge (7), 3) := by decide +kernel
theorem dd_Pr_sizeOf_26 : decode prog_5_method_9_code 26 = .ok (.iconst 1, 1) := by decide +kernel
theorem dd_Pr_sizeOf_27 : decode prog_5_method_9_code 27 = .ok (.goto (4), 3) := by decide +kernel
theorem dd_Pr_sizeOf_30 : decode prog_5_method_9_code 30 = .ok (.iconst 0, 1) := by decide +kernel
theorem dd_Pr_sizeOf_31 : decode prog_5_method_9_code 31 = .ok (.istore_n 3, 1) := by decide +kernel
theorem dd_Pr_sizeOf_32 : decode prog_5_method_9_code 32 = .ok (.iload_n 3, 1) := by decide +kernel
theorem dd_Pr_sizeOf_33 : decode prog_5_method_9_code 33 = .ok (.ifCond .eq (14), 3) := by decide +kernel
theorem dd_Pr_sizeOf_36 : decode prog_5_method_9_code 36 = .ok (.aload_n 0, 1) := by decide +kernel
theorem dd_Pr_sizeOf_37 : decode prog_5_method_9_code 37 = .ok (.getfield 11, 3) := by decide +kernel
theorem dd_Pr_sizeOf_40 : decode prog_5_method_9_code 40 = .ok (.iload_n 1, 1) := by decide +kernel
theorem dd_Pr_sizeOf_41 : decode prog_5_method_9_code 41 = .ok (.aaload, 1) := by decide +kernel
theorem dd_Pr_sizeOf_42 : decode prog_5_method_9_code 42 = .ok (.iload_n 2, 1) := by decide +kernel
theorem dd_Pr_sizeOf_43 : decode prog_5_method_9_code 43 = .ok (.iaload, 1) := by decide +kernel
theorem dd_Pr_sizeOf_44 : decode prog_5_method_9_code 44 = .ok (.goto (4), 3) := by decide +kernel
theorem dd_Pr_sizeOf_47 : decode prog_5_method_9_code 47 = .ok (.iconst 0, 1) := by decide +kernel
theorem dd_Pr_sizeOf_48 : decode prog_5_method_9_code 48 = .ok (.ireturn, 1) := by decide +kernel
theorem dd_Pr_frameSizeOf_0 : decode prog_5_method_10_code 0 = .ok (.iconst 0, 1) := by decide +kernel
theorem dd_Pr_frameSizeOf_1 : decode prog_5_method_10_code 1 = .ok (.istore_n 2, 1) := by decide +kernel
theorem dd_Pr_frameSizeOf_2 : decode prog_5_method_10_code 2 = .ok (.iconst 0, 1) := by decide +kernel
theorem dd_Pr_frameSizeOf_3 : decode prog_5_method_10_code 3 = .ok (.istore_n 3, 1) := by decide +kernel
theorem dd_Pr_frameSizeOf_4 : decode prog_5_method_10_code 4 = .ok (.iload_n 3, 1) := by decide +kernel
theorem dd_Pr_frameSizeOf_5 : decode prog_5_method_10_code 5 = .ok (.aload_n 0, 1) := by decide +kernel
theorem dd_Pr_frameSizeOf_6 : decode prog_5_method_10_code 6 = .ok (.getfield 16, 3) := by decide +kernel
theorem dd_Pr_frameSizeOf_9 : decode prog_5_method_10_code 9 = .ok (.iload_n 1, 1) := by decide +kernel
theorem dd_Pr_frameSizeOf_10 : decode prog_5_method_10_code 10 = .ok (.iaload, 1) := by decide +kernel
theorem dd_Pr_frameSizeOf_11 : decode prog_5_method_10_code 11 = .ok (.if_icmp .ge (20), 3) := by decide +kernel
theorem dd_Pr_frameSizeOf_14 : decode prog_5_method_10_code 14 = .ok (.iload_n 2, 1) := by decide +kernel
theorem dd_Pr_frameSizeOf_15 : decode prog_5_method_10_code 15 = .ok (.aload_n 0, 1) := by decide +kernel
theorem dd_Pr_frameSizeOf_16 : decode prog_5_method_10_code 16 = .ok (.getfield 11, 3) := by decide +kernel
theorem dd_Pr_frameSizeOf_19 : decode prog_5_method_10_code 19 = .ok (.iload_n 1, 1) := by decide +kernel
theorem dd_Pr_frameSizeOf_20 : decode prog_5_method_10_code 20 = .ok (.aaload, 1) := by decide +kernel
theorem dd_Pr_frameSizeOf_21 : decode prog_5_method_10_code 21 = .ok (.iload_n 3, 1) := by decide +kernel
theorem dd_Pr_frameSizeOf_22 : decode prog_5_method_10_code 22 = .ok (.iaload, 1) := by decide +kernel
theorem dd_Pr_frameSizeOf_23 : decode prog_5_method_10_code 23 = .ok (.iadd, 1) := by decide +kernel
theorem dd_Pr_frameSizeOf_24 : decode prog_5_method_10_code 24 = .ok (.istore_n 2, 1) := by decide +kernel
theorem dd_Pr_frameSizeOf_25 : decode prog_5_method_10_code 25 = .ok (.iinc 3 1, 3) := by decide +kernel
theorem dd_Pr_frameSizeOf_28 : decode prog_5_method_10_code 28 = .ok (.goto (-24), 3) := by decide +kernel
theorem dd_Pr_frameSizeOf_31 : decode prog_5_method_10_code 31 = .ok (.iload_n 2, 1) := by decide +kernel
theorem dd_Pr_frameSizeOf_32 : decode prog_5_method_10_code 32 = .ok (.ireturn, 1) := by decide +kernel
theorem dd_Pr_hasTarget_0 : decode prog_5_method_11_code 0 = .ok (.aload_n 0, 1) := by decide +kernel
theorem dd_Pr_hasTarget_1 : decode prog_5_method_11_code 1 = .ok (.getfield 29, 3) := by decide +kernel
theorem dd_Pr_hasTarget_4 : decode prog_5_method_11_code 4 = .ok (.iload_n 1, 1) := by decide +kernel
theorem dd_Pr_hasTarget_5 : decode prog_5_method_11_code 5 = .ok (.iaload, 1) := by decide +kernel
theorem dd_Pr_hasTarget_6 : decode prog_5_method_11_code 6 = .ok (.bipush 10, 2) := by decide +kernel
theorem dd_Pr_hasTarget_8 : decode prog_5_method_11_code 8 = .ok (.if_icmp .eq (25), 3) := by decide +kernel
theorem dd_Pr_hasTarget_11 : decode prog_5_method_11_code 11 = .ok (.aload_n 0, 1) := by decide +kernel
theorem dd_Pr_hasTarget_12 : decode prog_5_method_11_code 12 = .ok (.getfield 29, 3) := by decide +kernel
theorem dd_Pr_hasTarget_15 : decode prog_5_method_11_code 15 = .ok (.iload_n 1, 1) := by decide +kernel
theorem dd_Pr_hasTarget_16 : decode prog_5_method_11_code 16 = .ok (.iaload, 1) := by decide +kernel
theorem dd_Pr_hasTarget_17 : decode prog_5_method_11_code 17 = .ok (.bipush 11, 2) := by decide +kernel
theorem dd_Pr_hasTarget_19 : decode prog_5_method_11_code 19 = .ok (.if_icmp .eq (14), 3) := by decide +kernel
theorem dd_Pr_hasTarget_22 : decode prog_5_method_11_code 22 = .ok (.aload_n 0, 1) := by decide +kernel
theorem dd_Pr_hasTarget_23 : decode prog_5_method_11_code 23 = .ok (.getfield 29, 3) := by decide +kernel
theorem dd_Pr_hasTarget_26 : decode prog_5_method_11_code 26 = .ok (.iload_n 1, 1) := by decide +kernel
theorem dd_Pr_hasTarget_27 : decode prog_5_method_11_code 27 = .ok (.iaload, 1) := by decide +kernel
theorem dd_Pr_hasTarget_28 : decode prog_5_method_11_code 28 = .ok (.bipush 12, 2) := by decide +kernel
theorem dd_Pr_hasTarget_30 : decode prog_5_method_11_code 30 = .ok (.if_icmp .ne (7), 3) := by decide +kernel
theorem dd_Pr_hasTarget_33 : decode prog_5_method_11_code 33 = .ok (.iconst 1, 1) := by decide +kernel
theorem dd_Pr_hasTarget_34 : decode prog_5_method_11_code 34 = .ok (.goto (4), 3) := by decide +kernel
theorem dd_Pr_hasTarget_37 : decode prog_5_method_11_code 37 = .ok (.iconst 0, 1) := by decide +kernel
theorem dd_Pr_hasTarget_38 : decode prog_5_method_11_code 38 = .ok (.ireturn, 1) := by decide +kernel
theorem dd_Pr_targetOf_0 : decode prog_5_method_12_code 0 = .ok (.aload_n 0, 1) := by decide +kernel
theorem dd_Pr_targetOf_1 : decode prog_5_method_12_code 1 = .ok (.getfield 29, 3) := by decide +kernel
theorem dd_Pr_targetOf_4 : decode prog_5_method_12_code 4 = .ok (.iload_n 1, 1) := by decide +kernel
theorem dd_Pr_targetOf_5 : decode prog_5_method_12_code 5 = .ok (.iaload, 1) := by decide +kernel
theorem dd_Pr_targetOf_6 : decode prog_5_method_12_code 6 = .ok (.bipush 10, 2) := by decide +kernel
theorem dd_Pr_targetOf_8 : decode prog_5_method_12_code 8 = .ok (.if_icmp .ne (10), 3) := by decide +kernel
theorem dd_Pr_targetOf_11 : decode prog_5_method_12_code 11 = .ok (.aload_n 0, 1) := by decide +kernel
theorem dd_Pr_targetOf_12 : decode prog_5_method_12_code 12 = .ok (.getfield 32, 3) := by decide +kernel
theorem dd_Pr_targetOf_15 : decode prog_5_method_12_code 15 = .ok (.iload_n 1, 1) := by decide +kernel
theorem dd_Pr_targetOf_16 : decode prog_5_method_12_code 16 = .ok (.iaload, 1) := by decide +kernel
theorem dd_Pr_targetOf_17 : decode prog_5_method_12_code 17 = .ok (.ireturn, 1) := by decide +kernel
theorem dd_Pr_targetOf_18 : decode prog_5_method_12_code 18 = .ok (.aload_n 0, 1) := by decide +kernel
theorem dd_Pr_targetOf_19 : decode prog_5_method_12_code 19 = .ok (.getfield 29, 3) := by decide +kernel
theorem dd_Pr_targetOf_22 : decode prog_5_method_12_code 22 = .ok (.iload_n 1, 1) := by decide +kernel
theorem dd_Pr_targetOf_23 : decode prog_5_method_12_code 23 = .ok (.iaload, 1) := by decide +kernel
theorem dd_Pr_targetOf_24 : decode prog_5_method_12_code 24 = .ok (.bipush 11, 2) := by decide +kernel
theorem dd_Pr_targetOf_26 : decode prog_5_method_12_code 26 = .ok (.if_icmp .ne (12), 3) := by decide +kernel
theorem dd_Pr_targetOf_29 : decode prog_5_method_12_code 29 = .ok (.aload_n 0, 1) := by decide +kernel
theorem dd_Pr_targetOf_30 : decode prog_5_method_12_code 30 = .ok (.getfield 35, 3) := by decide +kernel
theorem dd_Pr_targetOf_33 : decode prog_5_method_12_code 33 = .ok (.iload_n 1, 1) := by decide +kernel
theorem dd_Pr_targetOf_34 : decode prog_5_method_12_code 34 = .ok (.iaload, 1) := by decide +kernel
theorem dd_Pr_targetOf_35 : decode prog_5_method_12_code 35 = .ok (.goto (9), 3) := by decide +kernel
theorem dd_Pr_targetOf_38 : decode prog_5_method_12_code 38 = .ok (.aload_n 0, 1) := by decide +kernel
theorem dd_Pr_targetOf_39 : decode prog_5_method_12_code 39 = .ok (.getfield 38, 3) := by decide +kernel
theorem dd_Pr_targetOf_42 : decode prog_5_method_12_code 42 = .ok (.iload_n 1, 1) := by decide +kernel
theorem dd_Pr_targetOf_43 : decode prog_5_method_12_code 43 = .ok (.iaload, 1) := by decide +kernel
theorem dd_Pr_targetOf_44 : decode prog_5_method_12_code 44 = .ok (.ireturn, 1) := by decide +kernel
theorem dd_Pr_goalOf_0 : decode prog_5_method_13_code 0 = .ok (.aload_n 0, 1) := by decide +kernel
theorem dd_Pr_goalOf_1 : decode prog_5_method_13_code 1 = .ok (.getfield 20, 3) := by decide +kernel
theorem dd_Pr_goalOf_4 : decode prog_5_method_13_code 4 = .ok (.aload_n 0, 1) := by decide +kernel
theorem dd_Pr_goalOf_5 : decode prog_5_method_13_code 5 = .ok (.getfield 26, 3) := by decide +kernel
theorem dd_Pr_goalOf_8 : decode prog_5_method_13_code 8 = .ok (.iload_n 1, 1) := by decide +kernel
theorem dd_Pr_goalOf_9 : decode prog_5_method_13_code 9 = .ok (.iaload, 1) := by decide +kernel
theorem dd_Pr_goalOf_10 : decode prog_5_method_13_code 10 = .ok (.iaload, 1) := by decide +kernel
theorem dd_Pr_goalOf_11 : decode prog_5_method_13_code 11 = .ok (.aload_n 0, 1) := by decide +kernel
theorem dd_Pr_goalOf_12 : decode prog_5_method_13_code 12 = .ok (.iload_n 1, 1) := by decide +kernel
theorem dd_Pr_goalOf_13 : decode prog_5_method_13_code 13 = .ok (.invokevirtual 67, 3) := by decide +kernel
theorem dd_Pr_goalOf_16 : decode prog_5_method_13_code 16 = .ok (.iadd, 1) := by decide +kernel
theorem dd_Pr_goalOf_17 : decode prog_5_method_13_code 17 = .ok (.ireturn, 1) := by decide +kernel
theorem dd_Pr_isWhole_0 : decode prog_5_method_14_code 0 = .ok (.iconst 0, 1) := by decide +kernel
theorem dd_Pr_isWhole_1 : decode prog_5_method_14_code 1 = .ok (.istore_n 1, 1) := by decide +kernel
theorem dd_Pr_isWhole_2 : decode prog_5_method_14_code 2 = .ok (.iload_n 1, 1) := by decide +kernel
theorem dd_Pr_isWhole_3 : decode prog_5_method_14_code 3 = .ok (.aload_n 0, 1) := by decide +kernel
theorem dd_Pr_isWhole_4 : decode prog_5_method_14_code 4 = .ok (.getfield 41, 3) := by decide +kernel
theorem dd_Pr_isWhole_7 : decode prog_5_method_14_code 7 = .ok (.if_icmp .ge (55), 3) := by decide +kernel
theorem dd_Pr_isWhole_10 : decode prog_5_method_14_code 10 = .ok (.aload_n 0, 1) := by decide +kernel
theorem dd_Pr_isWhole_11 : decode prog_5_method_14_code 11 = .ok (.getfield 23, 3) := by decide +kernel
theorem dd_Pr_isWhole_14 : decode prog_5_method_14_code 14 = .ok (.iload_n 1, 1) := by decide +kernel
theorem dd_Pr_isWhole_15 : decode prog_5_method_14_code 15 = .ok (.iaload, 1) := by decide +kernel
theorem dd_Pr_isWhole_16 : decode prog_5_method_14_code 16 = .ok (.ifCond .ne (5), 3) := by decide +kernel
theorem dd_Pr_isWhole_19 : decode prog_5_method_14_code 19 = .ok (.iconst 0, 1) := by decide +kernel
theorem dd_Pr_isWhole_20 : decode prog_5_method_14_code 20 = .ok (.ireturn, 1) := by decide +kernel
theorem dd_Pr_isWhole_21 : decode prog_5_method_14_code 21 = .ok (.aload_n 0, 1) := by decide +kernel
theorem dd_Pr_isWhole_22 : decode prog_5_method_14_code 22 = .ok (.getfield 29, 3) := by decide +kernel
theorem dd_Pr_isWhole_25 : decode prog_5_method_14_code 25 = .ok (.aload_n 0, 1) := by decide +kernel
theorem dd_Pr_isWhole_26 : decode prog_5_method_14_code 26 = .ok (.getfield 20, 3) := by decide +kernel
theorem dd_Pr_isWhole_29 : decode prog_5_method_14_code 29 = .ok (.iload_n 1, 1) := by decide +kernel
theorem dd_Pr_isWhole_30 : decode prog_5_method_14_code 30 = .ok (.iaload, 1) := by decide +kernel
theorem dd_Pr_isWhole_31 : decode prog_5_method_14_code 31 = .ok (.aload_n 0, 1) := by decide +kernel
theorem dd_Pr_isWhole_32 : decode prog_5_method_14_code 32 = .ok (.getfield 23, 3) := by decide +kernel
theorem dd_Pr_isWhole_35 : decode prog_5_method_14_code 35 = .ok (.iload_n 1, 1) := by decide +kernel
theorem dd_Pr_isWhole_36 : decode prog_5_method_14_code 36 = .ok (.iaload, 1) := by decide +kernel
theorem dd_Pr_isWhole_37 : decode prog_5_method_14_code 37 = .ok (.iadd, 1) := by decide +kernel
theorem dd_Pr_isWhole_38 : decode prog_5_method_14_code 38 = .ok (.iconst 1, 1) := by decide +kernel
theorem dd_Pr_isWhole_39 : decode prog_5_method_14_code 39 = .ok (.isub, 1) := by decide +kernel
theorem dd_Pr_isWhole_40 : decode prog_5_method_14_code 40 = .ok (.iaload, 1) := by decide +kernel
theorem dd_Pr_isWhole_41 : decode prog_5_method_14_code 41 = .ok (.istore_n 2, 1) := by decide +kernel
theorem dd_Pr_isWhole_42 : decode prog_5_method_14_code 42 = .ok (.iload_n 2, 1) := by decide +kernel
theorem dd_Pr_isWhole_43 : decode prog_5_method_14_code 43 = .ok (.bipush 10, 2) := by decide +kernel
theorem dd_Pr_isWhole_45 : decode prog_5_method_14_code 45 = .ok (.if_icmp .eq (11), 3) := by decide +kernel
theorem dd_Pr_isWhole_48 : decode prog_5_method_14_code 48 = .ok (.iload_n 2, 1) := by decide +kernel
theorem dd_Pr_isWhole_49 : decode prog_5_method_14_code 49 = .ok (.bipush 14, 2) := by decide +kernel
theorem dd_Pr_isWhole_51 : decode prog_5_method_14_code 51 = .ok (.if_icmp .eq (5), 3) := by decide +kernel
theorem dd_Pr_isWhole_54 : decode prog_5_method_14_code 54 = .ok (.iconst 0, 1) := by decide +kernel
theorem dd_Pr_isWhole_55 : decode prog_5_method_14_code 55 = .ok (.ireturn, 1) := by decide +kernel
theorem dd_Pr_isWhole_56 : decode prog_5_method_14_code 56 = .ok (.iinc 1 1, 3) := by decide +kernel
theorem dd_Pr_isWhole_59 : decode prog_5_method_14_code 59 = .ok (.goto (-57), 3) := by decide +kernel
theorem dd_Pr_isWhole_62 : decode prog_5_method_14_code 62 = .ok (.aload_n 0, 1) := by decide +kernel
theorem dd_Pr_isWhole_63 : decode prog_5_method_14_code 63 = .ok (.getfield 41, 3) := by decide +kernel
theorem dd_Pr_isWhole_66 : decode prog_5_method_14_code 66 = .ok (.ifCond .le (7), 3) := by decide +kernel
theorem dd_Pr_isWhole_69 : decode prog_5_method_14_code 69 = .ok (.iconst 1, 1) := by decide +kernel
theorem dd_Pr_isWhole_70 : decode prog_5_method_14_code 70 = .ok (.goto (4), 3) := by decide +kernel
theorem dd_Pr_isWhole_73 : decode prog_5_method_14_code 73 = .ok (.iconst 0, 1) := by decide +kernel
theorem dd_Pr_isWhole_74 : decode prog_5_method_14_code 74 = .ok (.ireturn, 1) := by decide +kernel
theorem dd_Pr_hasAllTargets_0 : decode prog_5_method_15_code 0 = .ok (.iconst 0, 1) := by decide +kernel
theorem dd_Pr_hasAllTargets_1 : decode prog_5_method_15_code 1 = .ok (.istore_n 1, 1) := by decide +kernel
theorem dd_Pr_hasAllTargets_2 : decode prog_5_method_15_code 2 = .ok (.iload_n 1, 1) := by decide +kernel
theorem dd_Pr_hasAllTargets_3 : decode prog_5_method_15_code 3 = .ok (.aload_n 0, 1) := by decide +kernel
theorem dd_Pr_hasAllTargets_4 : decode prog_5_method_15_code 4 = .ok (.getfield 45, 3) := by decide +kernel
theorem dd_Pr_hasAllTargets_7 : decode prog_5_method_15_code 7 = .ok (.if_icmp .ge (37), 3) := by decide +kernel
theorem dd_Pr_hasAllTargets_10 : decode prog_5_method_15_code 10 = .ok (.aload_n 0, 1) := by decide +kernel
theorem dd_Pr_hasAllTargets_11 : decode prog_5_method_15_code 11 = .ok (.iload_n 1, 1) := by decide +kernel
theorem dd_Pr_hasAllTargets_12 : decode prog_5_method_15_code 12 = .ok (.invokevirtual 71, 3) := by decide +kernel
theorem dd_Pr_hasAllTargets_15 : decode prog_5_method_15_code 15 = .ok (.ifCond .eq (23), 3) := by decide +kernel
theorem dd_Pr_hasAllTargets_18 : decode prog_5_method_15_code 18 = .ok (.aload_n 0, 1) := by decide +kernel
theorem dd_Pr_hasAllTargets_19 : decode prog_5_method_15_code 19 = .ok (.aload_n 0, 1) := by decide +kernel
theorem dd_Pr_hasAllTargets_20 : decode prog_5_method_15_code 20 = .ok (.getfield 26, 3) := by decide +kernel
theorem dd_Pr_hasAllTargets_23 : decode prog_5_method_15_code 23 = .ok (.iload_n 1, 1) := by decide +kernel
theorem dd_Pr_hasAllTargets_24 : decode prog_5_method_15_code 24 = .ok (.iaload, 1) := by decide +kernel
theorem dd_Pr_hasAllTargets_25 : decode prog_5_method_15_code 25 = .ok (.aload_n 0, 1) := by decide +kernel
theorem dd_Pr_hasAllTargets_26 : decode prog_5_method_15_code 26 = .ok (.iload_n 1, 1) := by decide +kernel
theorem dd_Pr_hasAllTargets_27 : decode prog_5_method_15_code 27 = .ok (.invokevirtual 67, 3) := by decide +kernel
theorem dd_Pr_hasAllTargets_30 : decode prog_5_method_15_code 30 = .ok (.invokevirtual 74, 3) := by decide +kernel
theorem dd_Pr_hasAllTargets_33 : decode prog_5_method_15_code 33 = .ok (.ifCond .ne (5), 3) := by decide +kernel
theorem dd_Pr_hasAllTargets_36 : decode prog_5_method_15_code 36 = .ok (.iconst 0, 1) := by decide +kernel
theorem dd_Pr_hasAllTargets_37 : decode prog_5_method_15_code 37 = .ok (.ireturn, 1) := by decide +kernel
theorem dd_Pr_hasAllTargets_38 : decode prog_5_method_15_code 38 = .ok (.iinc 1 1, 3) := by decide +kernel
theorem dd_Pr_hasAllTargets_41 : decode prog_5_method_15_code 41 = .ok (.goto (-39), 3) := by decide +kernel
theorem dd_Pr_hasAllTargets_44 : decode prog_5_method_15_code 44 = .ok (.iconst 1, 1) := by decide +kernel
theorem dd_Pr_hasAllTargets_45 : decode prog_5_method_15_code 45 = .ok (.ireturn, 1) := by decide +kernel
theorem dd_Pr_hasAllCallees_0 : decode prog_5_method_16_code 0 = .ok (.iconst 0, 1) := by decide +kernel
theorem dd_Pr_hasAllCallees_1 : decode prog_5_method_16_code 1 = .ok (.istore_n 1, 1) := by decide +kernel
theorem dd_Pr_hasAllCallees_2 : decode prog_5_method_16_code 2 = .ok (.iload_n 1, 1) := by decide +kernel
theorem dd_Pr_hasAllCallees_3 : decode prog_5_method_16_code 3 = .ok (.aload_n 0, 1) := by decide +kernel
theorem dd_Pr_hasAllCallees_4 : decode prog_5_method_16_code 4 = .ok (.getfield 45, 3) := by decide +kernel
theorem dd_Pr_hasAllCallees_7 : decode prog_5_method_16_code 7 = .ok (.if_icmp .ge (35), 3) := by decide +kernel
theorem dd_Pr_hasAllCallees_10 : decode prog_5_method_16_code 10 = .ok (.aload_n 0, 1) := by decide +kernel
theorem dd_Pr_hasAllCallees_11 : decode prog_5_method_16_code 11 = .ok (.getfield 29, 3) := by decide +kernel
theorem dd_Pr_hasAllCallees_14 : decode prog_5_method_16_code 14 = .ok (.iload_n 1, 1) := by decide +kernel
theorem dd_Pr_hasAllCallees_15 : decode prog_5_method_16_code 15 = .ok (.iaload, 1) := by decide +kernel
theorem dd_Pr_hasAllCallees_16 : decode prog_5_method_16_code 16 = .ok (.bipush 13, 2) := by decide +kernel
theorem dd_Pr_hasAllCallees_18 : decode prog_5_method_16_code 18 = .ok (.if_icmp .ne (18), 3) := by decide +kernel
theorem dd_Pr_hasAllCallees_21 : decode prog_5_method_16_code 21 = .ok (.aload_n 0, 1) := by decide +kernel
theorem dd_Pr_hasAllCallees_22 : decode prog_5_method_16_code 22 = .ok (.aload_n 0, 1) := by decide +kernel
theorem dd_Pr_hasAllCallees_23 : decode prog_5_method_16_code 23 = .ok (.getfield 32, 3) := by decide +kernel
theorem dd_Pr_hasAllCallees_26 : decode prog_5_method_16_code 26 = .ok (.iload_n 1, 1) := by decide +kernel
theorem dd_Pr_hasAllCallees_27 : decode prog_5_method_16_code 27 = .ok (.iaload, 1) := by decide +kernel
theorem dd_Pr_hasAllCallees_28 : decode prog_5_method_16_code 28 = .ok (.invokevirtual 64, 3) := by decide +kernel
theorem dd_Pr_hasAllCallees_31 : decode prog_5_method_16_code 31 = .ok (.ifCond .ne (5), 3) := by decide +kernel
theorem dd_Pr_hasAllCallees_34 : decode prog_5_method_16_code 34 = .ok (.iconst 0, 1) := by decide +kernel
theorem dd_Pr_hasAllCallees_35 : decode prog_5_method_16_code 35 = .ok (.ireturn, 1) := by decide +kernel
theorem dd_Pr_hasAllCallees_36 : decode prog_5_method_16_code 36 = .ok (.iinc 1 1, 3) := by decide +kernel
theorem dd_Pr_hasAllCallees_39 : decode prog_5_method_16_code 39 = .ok (.goto (-37), 3) := by decide +kernel
theorem dd_Pr_hasAllCallees_42 : decode prog_5_method_16_code 42 = .ok (.iconst 1, 1) := by decide +kernel
theorem dd_Pr_hasAllCallees_43 : decode prog_5_method_16_code 43 = .ok (.ireturn, 1) := by decide +kernel
