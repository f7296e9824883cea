theorem dd_Fb_function_0 : decode prog_1_method_2_code 0 = .ok (.aload_n 0, 1) := by decide +kernel
theorem dd_Fb_function_1 : decode prog_1_method_2_code 1 = .ok (.aload_n 0, 1) := by decide +kernel
theorem dd_Fb_function_2 : decode prog_1_method_2_code 2 = .ok (.getfield 10, 3) := by decide +kernel
theorem dd_Fb_function_5 : decode prog_1_method_2_code 5 = .ok (.invokevirtual 47, 3) := by decide +kernel
theorem dd_Fb_function_8 : decode prog_1_method_2_code 8 = .ok (.invokevirtual 51, 3) := by decide +kernel
theorem dd_Fb_function_11 : decode prog_1_method_2_code 11 = .ok (.ireturn, 1) := by decide +kernel
theorem dd_Fb_variable_0 : decode prog_1_method_3_code 0 = .ok (.aload_n 0, 1) := by decide +kernel
theorem dd_Fb_variable_1 : decode prog_1_method_3_code 1 = .ok (.aload_n 0, 1) := by decide +kernel
theorem dd_Fb_variable_2 : decode prog_1_method_3_code 2 = .ok (.getfield 10, 3) := by decide +kernel
theorem dd_Fb_variable_5 : decode prog_1_method_3_code 5 = .ok (.iload_n 1, 1) := by decide +kernel
theorem dd_Fb_variable_6 : decode prog_1_method_3_code 6 = .ok (.invokevirtual 55, 3) := by decide +kernel
theorem dd_Fb_variable_9 : decode prog_1_method_3_code 9 = .ok (.invokevirtual 51, 3) := by decide +kernel
theorem dd_Fb_variable_12 : decode prog_1_method_3_code 12 = .ok (.ireturn, 1) := by decide +kernel
theorem dd_Fb_op_0 : decode prog_1_method_4_code 0 = .ok (.aload_n 0, 1) := by decide +kernel
theorem dd_Fb_op_1 : decode prog_1_method_4_code 1 = .ok (.aload_n 0, 1) := by decide +kernel
theorem dd_Fb_op_2 : decode prog_1_method_4_code 2 = .ok (.getfield 10, 3) := by decide +kernel
theorem dd_Fb_op_5 : decode prog_1_method_4_code 5 = .ok (.iload_n 1, 1) := by decide +kernel
theorem dd_Fb_op_6 : decode prog_1_method_4_code 6 = .ok (.iload_n 2, 1) := by decide +kernel
theorem dd_Fb_op_7 : decode prog_1_method_4_code 7 = .ok (.iload_n 3, 1) := by decide +kernel
theorem dd_Fb_op_8 : decode prog_1_method_4_code 8 = .ok (.iload 4, 2) := by decide +kernel
theorem dd_Fb_op_10 : decode prog_1_method_4_code 10 = .ok (.invokevirtual 58, 3) := by decide +kernel
theorem dd_Fb_op_13 : decode prog_1_method_4_code 13 = .ok (.invokevirtual 51, 3) := by decide +kernel
theorem dd_Fb_op_16 : decode prog_1_method_4_code 16 = .ok (.ireturn, 1) := by decide +kernel
theorem dd_Fb_compile_0 : decode prog_1_method_5_code 0 = .ok (.aload_n 0, 1) := by decide +kernel
theorem dd_Fb_compile_1 : decode prog_1_method_5_code 1 = .ok (.invokevirtual 62, 3) := by decide +kernel
theorem dd_Fb_compile_4 : decode prog_1_method_5_code 4 = .ok (.aload_n 0, 1) := by decide +kernel
theorem dd_Fb_compile_5 : decode prog_1_method_5_code 5 = .ok (.invokevirtual 65, 3) := by decide +kernel
theorem dd_Fb_compile_8 : decode prog_1_method_5_code 8 = .ok (.istore_n 1, 1) := by decide +kernel
theorem dd_Fb_compile_9 : decode prog_1_method_5_code 9 = .ok (.iload_n 1, 1) := by decide +kernel
theorem dd_Fb_compile_10 : decode prog_1_method_5_code 10 = .ok (.ifCond .eq (5), 3) := by decide +kernel
theorem dd_Fb_compile_13 : decode prog_1_method_5_code 13 = .ok (.iload_n 1, 1) := by decide +kernel
theorem dd_Fb_compile_14 : decode prog_1_method_5_code 14 = .ok (.ireturn, 1) := by decide +kernel
theorem dd_Fb_compile_15 : decode prog_1_method_5_code 15 = .ok (.aload_n 0, 1) := by decide +kernel
theorem dd_Fb_compile_16 : decode prog_1_method_5_code 16 = .ok (.getfield 30, 3) := by decide +kernel
theorem dd_Fb_compile_19 : decode prog_1_method_5_code 19 = .ok (.invokevirtual 68, 3) := by decide +kernel
theorem dd_Fb_compile_22 : decode prog_1_method_5_code 22 = .ok (.aload_n 0, 1) := by decide +kernel
theorem dd_Fb_compile_23 : decode prog_1_method_5_code 23 = .ok (.getfield 30, 3) := by decide +kernel
theorem dd_Fb_compile_26 : decode prog_1_method_5_code 26 = .ok (.getfield 71, 3) := by decide +kernel
theorem dd_Fb_compile_29 : decode prog_1_method_5_code 29 = .ok (.sipush 500, 3) := by decide +kernel
theorem dd_Fb_compile_32 : decode prog_1_method_5_code 32 = .ok (.if_icmp .le (6), 3) := by decide +kernel
theorem dd_Fb_compile_35 : decode prog_1_method_5_code 35 = .ok (.bipush 6, 2) := by decide +kernel
theorem dd_Fb_compile_37 : decode prog_1_method_5_code 37 = .ok (.ireturn, 1) := by decide +kernel
theorem dd_Fb_compile_38 : decode prog_1_method_5_code 38 = .ok (.aload_n 0, 1) := by decide +kernel
theorem dd_Fb_compile_39 : decode prog_1_method_5_code 39 = .ok (.iconst 1, 1) := by decide +kernel
theorem dd_Fb_compile_40 : decode prog_1_method_5_code 40 = .ok (.putfield 43, 3) := by decide +kernel
theorem dd_Fb_compile_43 : decode prog_1_method_5_code 43 = .ok (.iconst 0, 1) := by decide +kernel
theorem dd_Fb_compile_44 : decode prog_1_method_5_code 44 = .ok (.ireturn, 1) := by decide +kernel
theorem dd_Fb_length_0 : decode prog_1_method_6_code 0 = .ok (.aload_n 0, 1) := by decide +kernel
theorem dd_Fb_length_1 : decode prog_1_method_6_code 1 = .ok (.getfield 43, 3) := by decide +kernel
theorem dd_Fb_length_4 : decode prog_1_method_6_code 4 = .ok (.ifCond .eq (13), 3) := by decide +kernel
theorem dd_Fb_length_7 : decode prog_1_method_6_code 7 = .ok (.aload_n 0, 1) := by decide +kernel
theorem dd_Fb_length_8 : decode prog_1_method_6_code 8 = .ok (.getfield 30, 3) := by decide +kernel
theorem dd_Fb_length_11 : decode prog_1_method_6_code 11 = .ok (.getfield 71, 3) := by decide +kernel
theorem dd_Fb_length_14 : decode prog_1_method_6_code 14 = .ok (.goto (4), 3) := by decide +kernel
theorem dd_Fb_length_17 : decode prog_1_method_6_code 17 = .ok (.iconst 0, 1) := by decide +kernel
theorem dd_Fb_length_18 : decode prog_1_method_6_code 18 = .ok (.ireturn, 1) := by decide +kernel
theorem dd_Fb_code_0 : decode prog_1_method_7_code 0 = .ok (.aload_n 0, 1) := by decide +kernel
theorem dd_Fb_code_1 : decode prog_1_method_7_code 1 = .ok (.getfield 43, 3) := by decide +kernel
theorem dd_Fb_code_4 : decode prog_1_method_7_code 4 = .ok (.ifCond .eq (30), 3) := by decide +kernel
theorem dd_Fb_code_7 : decode prog_1_method_7_code 7 = .ok (.iload_n 1, 1) := by decide +kernel
theorem dd_Fb_code_8 : decode prog_1_method_7_code 8 = .ok (.ifCond .lt (26), 3) := by decide +kernel
theorem dd_Fb_code_11 : decode prog_1_method_7_code 11 = .ok (.iload_n 1, 1) := by decide +kernel
theorem dd_Fb_code_12 : decode prog_1_method_7_code 12 = .ok (.aload_n 0, 1) := by decide +kernel
theorem dd_Fb_code_13 : decode prog_1_method_7_code 13 = .ok (.getfield 30, 3) := by decide +kernel
theorem dd_Fb_code_16 : decode prog_1_method_7_code 16 = .ok (.getfield 71, 3) := by decide +kernel
theorem dd_Fb_code_19 : decode prog_1_method_7_code 19 = .ok (.if_icmp .ge (15), 3) := by decide +kernel
theorem dd_Fb_code_22 : decode prog_1_method_7_code 22 = .ok (.aload_n 0, 1) := by decide +kernel
theorem dd_Fb_code_23 : decode prog_1_method_7_code 23 = .ok (.getfield 30, 3) := by decide +kernel
theorem dd_Fb_code_26 : decode prog_1_method_7_code 26 = .ok (.getfield 75, 3) := by decide +kernel
theorem dd_Fb_code_29 : decode prog_1_method_7_code 29 = .ok (.iload_n 1, 1) := by decide +kernel
theorem dd_Fb_code_30 : decode prog_1_method_7_code 30 = .ok (.iaload, 1) := by decide +kernel
theorem dd_Fb_code_31 : decode prog_1_method_7_code 31 = .ok (.goto (4), 3) := by decide +kernel
theorem dd_Fb_code_34 : decode prog_1_method_7_code 34 = .ok (.iconst (-1), 1) := by decide +kernel
theorem dd_Fb_code_35 : decode prog_1_method_7_code 35 = .ok (.ireturn, 1) := by decide +kernel
theorem dd_Fb_longs_0 : decode prog_1_method_8_code 0 = .ok (.aload_n 0, 1) := by decide +kernel
theorem dd_Fb_longs_1 : decode prog_1_method_8_code 1 = .ok (.getfield 43, 3) := by decide +kernel
theorem dd_Fb_longs_4 : decode prog_1_method_8_code 4 = .ok (.ifCond .eq (13), 3) := by decide +kernel
theorem dd_Fb_longs_7 : decode prog_1_method_8_code 7 = .ok (.aload_n 0, 1) := by decide +kernel
theorem dd_Fb_longs_8 : decode prog_1_method_8_code 8 = .ok (.getfield 30, 3) := by decide +kernel
theorem dd_Fb_longs_11 : decode prog_1_method_8_code 11 = .ok (.getfield 79, 3) := by decide +kernel
theorem dd_Fb_longs_14 : decode prog_1_method_8_code 14 = .ok (.goto (4), 3) := by decide +kernel
theorem dd_Fb_longs_17 : decode prog_1_method_8_code 17 = .ok (.iconst 0, 1) := by decide +kernel
theorem dd_Fb_longs_18 : decode prog_1_method_8_code 18 = .ok (.ireturn, 1) := by decide +kernel
theorem dd_Fb_base_0 : decode prog_1_method_9_code 0 = .ok (.aload_n 0, 1) := by decide +kernel
theorem dd_Fb_base_1 : decode prog_1_method_9_code 1 = .ok (.getfield 43, 3) := by decide +kernel
theorem dd_Fb_base_4 : decode prog_1_method_9_code 4 = .ok (.ifCond .eq (26), 3) := by decide +kernel
theorem dd_Fb_base_7 : decode prog_1_method_9_code 7 = .ok (.aload_n 0, 1) := by decide +kernel
theorem dd_Fb_base_8 : decode prog_1_method_9_code 8 = .ok (.getfield 10, 3) := by decide +kernel
theorem dd_Fb_base_11 : decode prog_1_method_9_code 11 = .ok (.iload_n 1, 1) := by decide +kernel
theorem dd_Fb_base_12 : decode prog_1_method_9_code 12 = .ok (.invokevirtual 82, 3) := by decide +kernel
theorem dd_Fb_base_15 : decode prog_1_method_9_code 15 = .ok (.ifCond .eq (15), 3) := by decide +kernel
theorem dd_Fb_base_18 : decode prog_1_method_9_code 18 = .ok (.aload_n 0, 1) := by decide +kernel
theorem dd_Fb_base_19 : decode prog_1_method_9_code 19 = .ok (.getfield 21, 3) := by decide +kernel
theorem dd_Fb_base_22 : decode prog_1_method_9_code 22 = .ok (.getfield 86, 3) := by decide +kernel
theorem dd_Fb_base_25 : decode prog_1_method_9_code 25 = .ok (.iload_n 1, 1) := by decide +kernel
theorem dd_Fb_base_26 : decode prog_1_method_9_code 26 = .ok (.iaload, 1) := by decide +kernel
theorem dd_Fb_base_27 : decode prog_1_method_9_code 27 = .ok (.goto (4), 3) := by decide +kernel
theorem dd_Fb_base_30 : decode prog_1_method_9_code 30 = .ok (.iconst (-1), 1) := by decide +kernel
theorem dd_Fb_base_31 : decode prog_1_method_9_code 31 = .ok (.ireturn, 1) := by decide +kernel
theorem dd_Fb_address_0 : decode prog_1_method_10_code 0 = .ok (.aload_n 0, 1) := by decide +kernel
theorem dd_Fb_address_1 : decode prog_1_method_10_code 1 = .ok (.getfield 43, 3) := by decide +kernel
theorem dd_Fb_address_4 : decode prog_1_method_10_code 4 = .ok (.ifCond .eq (37), 3) := by decide +kernel
theorem dd_Fb_address_7 : decode prog_1_method_10_code 7 = .ok (.aload_n 0, 1) := by decide +kernel
theorem dd_Fb_address_8 : decode prog_1_method_10_code 8 = .ok (.getfield 10, 3) := by decide +kernel
theorem dd_Fb_address_11 : decode prog_1_method_10_code 11 = .ok (.iload_n 1, 1) := by decide +kernel
theorem dd_Fb_address_12 : decode prog_1_method_10_code 12 = .ok (.iload_n 2, 1) := by decide +kernel
theorem dd_Fb_address_13 : decode prog_1_method_10_code 13 = .ok (.invokevirtual 89, 3) := by decide +kernel
theorem dd_Fb_address_16 : decode prog_1_method_10_code 16 = .ok (.ifCond .eq (25), 3) := by decide +kernel
theorem dd_Fb_address_19 : decode prog_1_method_10_code 19 = .ok (.aload_n 0, 1) := by decide +kernel
theorem dd_Fb_address_20 : decode prog_1_method_10_code 20 = .ok (.getfield 30, 3) := by decide +kernel
theorem dd_Fb_address_23 : decode prog_1_method_10_code 23 = .ok (.getfield 93, 3) := by decide +kernel
theorem dd_Fb_address_26 : decode prog_1_method_10_code 26 = .ok (.aload_n 0, 1) := by decide +kernel
theorem dd_Fb_address_27 : decode prog_1_method_10_code 27 = .ok (.getfield 10, 3) := by decide +kernel
theorem dd_Fb_address_30 : decode prog_1_method_10_code 30 = .ok (.getfield 96, 3) := by decide +kernel
theorem dd_Fb_address_33 : decode prog_1_method_10_code 33 = .ok (.iload_n 1, 1) := by decide +kernel
theorem dd_Fb_address_34 : decode prog_1_method_10_code 34 = .ok (.iaload, 1) := by decide +kernel
theorem dd_Fb_address_35 : decode prog_1_method_10_code 35 = .ok (.iload_n 2, 1) := by decide +kernel
theorem dd_Fb_address_36 : decode prog_1_method_10_code 36 = .ok (.iadd, 1) := by decide +kernel
theorem dd_Fb_address_37 : decode prog_1_method_10_code 37 = .ok (.iaload, 1) := by decide +kernel
theorem dd_Fb_address_38 : decode prog_1_method_10_code 38 = .ok (.goto (4), 3) := by decide +kernel
theorem dd_Fb_address_41 : decode prog_1_method_10_code 41 = .ok (.iconst (-1), 1) := by decide +kernel
theorem dd_Fb_address_42 : decode prog_1_method_10_code 42 = .ok (.ireturn, 1) := by decide +kernel
theorem dd_Fb_start_0 : decode prog_1_method_11_code 0 = .ok (.aload_n 0, 1) := by decide +kernel
theorem dd_Fb_start_1 : decode prog_1_method_11_code 1 = .ok (.getfield 43, 3) := by decide +kernel
theorem dd_Fb_start_4 : decode prog_1_method_11_code 4 = .ok (.ifCond .ne (5), 3) := by decide +kernel
theorem dd_Fb_start_7 : decode prog_1_method_11_code 7 = .ok (.iconst 0, 1) := by decide +kernel
theorem dd_Fb_start_8 : decode prog_1_method_11_code 8 = .ok (.ireturn, 1) := by decide +kernel
theorem dd_Fb_start_9 : decode prog_1_method_11_code 9 = .ok (.aload_n 0, 1) := by decide +kernel
theorem dd_Fb_start_10 : decode prog_1_method_11_code 10 = .ok (.getfield 39, 3) := by decide +kernel
theorem dd_Fb_start_13 : decode prog_1_method_11_code 13 = .ok (.invokevirtual 99, 3) := by decide +kernel
theorem dd_Fb_start_16 : decode prog_1_method_11_code 16 = .ok (.iconst 1, 1) := by decide +kernel
theorem dd_Fb_start_17 : decode prog_1_method_11_code 17 = .ok (.ireturn, 1) := by decide +kernel
theorem dd_Fb_run_0 : decode prog_1_method_12_code 0 = .ok (.aload_n 0, 1) := by decide +kernel
theorem dd_Fb_run_1 : decode prog_1_method_12_code 1 = .ok (.getfield 39, 3) := by decide +kernel
theorem dd_Fb_run_4 : decode prog_1_method_12_code 4 = .ok (.getfield 102, 3) := by decide +kernel
theorem dd_Fb_run_7 : decode prog_1_method_12_code 7 = .ok (.iconst (-1), 1) := by decide +kernel
theorem dd_Fb_run_8 : decode prog_1_method_12_code 8 = .ok (.if_icmp .eq (14), 3) := by decide +kernel
theorem dd_Fb_run_11 : decode prog_1_method_12_code 11 = .ok (.iload_n 1, 1) := by decide +kernel
theorem dd_Fb_run_12 : decode prog_1_method_12_code 12 = .ok (.ifCond .lt (10), 3) := by decide +kernel
theorem dd_Fb_run_15 : decode prog_1_method_12_code 15 = .ok (.iload_n 1, 1) := by decide +kernel
theorem dd_Fb_run_16 : decode prog_1_method_12_code 16 = .ok (.sipush 1000, 3) := by decide +kernel
theorem dd_Fb_run_19 : decode prog_1_method_12_code 19 = .ok (.if_icmp .le (5), 3) := by decide +kernel
theorem dd_Fb_run_22 : decode prog_1_method_12_code 22 = .ok (.iconst (-1), 1) := by decide +kernel
theorem dd_Fb_run_23 : decode prog_1_method_12_code 23 = .ok (.ireturn, 1) := by decide +kernel
theorem dd_Fb_run_24 : decode prog_1_method_12_code 24 = .ok (.aload_n 0, 1) := by decide +kernel
theorem dd_Fb_run_25 : decode prog_1_method_12_code 25 = .ok (.getfield 39, 3) := by decide +kernel
theorem dd_Fb_run_28 : decode prog_1_method_12_code 28 = .ok (.iload_n 1, 1) := by decide +kernel
theorem dd_Fb_run_29 : decode prog_1_method_12_code 29 = .ok (.invokevirtual 105, 3) := by decide +kernel
theorem dd_Fb_run_32 : decode prog_1_method_12_code 32 = .ok (.ireturn, 1) := by decide +kernel
theorem dd_Fb_state_0 : decode prog_1_method_13_code 0 = .ok (.aload_n 0, 1) := by decide +kernel
theorem dd_Fb_state_1 : decode prog_1_method_13_code 1 = .ok (.getfield 39, 3) := by decide +kernel
theorem dd_Fb_state_4 : decode prog_1_method_13_code 4 = .ok (.getfield 102, 3) := by decide +kernel
theorem dd_Fb_state_7 : decode prog_1_method_13_code 7 = .ok (.ireturn, 1) := by decide +kernel
theorem dd_Fb_spent_0 : decode prog_1_method_14_code 0 = .ok (.aload_n 0, 1) := by decide +kernel
theorem dd_Fb_spent_1 : decode prog_1_method_14_code 1 = .ok (.getfield 39, 3) := by decide +kernel
theorem dd_Fb_spent_4 : decode prog_1_method_14_code 4 = .ok (.getfield 108, 3) := by decide +kernel
theorem dd_Fb_spent_7 : decode prog_1_method_14_code 7 = .ok (.ireturn, 1) := by decide +kernel
theorem dd_Fb_next_0 : decode prog_1_method_15_code 0 = .ok (.aload_n 0, 1) := by decide +kernel
theorem dd_Fb_next_1 : decode prog_1_method_15_code 1 = .ok (.getfield 39, 3) := by decide +kernel
theorem dd_Fb_next_4 : decode prog_1_method_15_code 4 = .ok (.invokevirtual 111, 3) := by decide +kernel
theorem dd_Fb_next_7 : decode prog_1_method_15_code 7 = .ok (.ireturn, 1) := by decide +kernel
theorem dd_Fb_depth_0 : decode prog_1_method_16_code 0 = .ok (.aload_n 0, 1) := by decide +kernel
theorem dd_Fb_depth_1 : decode prog_1_method_16_code 1 = .ok (.getfield 39, 3) := by decide +kernel
theorem dd_Fb_depth_4 : decode prog_1_method_16_code 4 = .ok (.getfield 102, 3) := by decide +kernel
theorem dd_Fb_depth_7 : decode prog_1_method_16_code 7 = .ok (.ifCond .ne (15), 3) := by decide +kernel
theorem dd_Fb_depth_10 : decode prog_1_method_16_code 10 = .ok (.aload_n 0, 1) := by decide +kernel
theorem dd_Fb_depth_11 : decode prog_1_method_16_code 11 = .ok (.getfield 39, 3) := by decide +kernel
theorem dd_Fb_depth_14 : decode prog_1_method_16_code 14 = .ok (.getfield 114, 3) := by decide +kernel
theorem dd_Fb_depth_17 : decode prog_1_method_16_code 17 = .ok (.iconst 1, 1) := by decide +kernel
theorem dd_Fb_depth_18 : decode prog_1_method_16_code 18 = .ok (.iadd, 1) := by decide +kernel
theorem dd_Fb_depth_19 : decode prog_1_method_16_code 19 = .ok (.goto (4), 3) := by decide +kernel
theorem dd_Fb_depth_22 : decode prog_1_method_16_code 22 = .ok (.iconst 0, 1) := by decide +kernel
theorem dd_Fb_depth_23 : decode prog_1_method_16_code 23 = .ok (.ireturn, 1) := by decide +kernel
theorem dd_Fb_value_0 : decode prog_1_method_17_code 0 = .ok (.aload_n 0, 1) := by decide +kernel
theorem dd_Fb_value_1 : decode prog_1_method_17_code 1 = .ok (.getfield 39, 3) := by decide +kernel
theorem dd_Fb_value_4 : decode prog_1_method_17_code 4 = .ok (.invokevirtual 111, 3) := by decide +kernel
theorem dd_Fb_value_7 : decode prog_1_method_17_code 7 = .ok (.istore_n 3, 1) := by decide +kernel
theorem dd_Fb_value_8 : decode prog_1_method_17_code 8 = .ok (.iload_n 3, 1) := by decide +kernel
theorem dd_Fb_value_9 : decode prog_1_method_17_code 9 = .ok (.iconst (-1), 1) := by decide +kernel
theorem dd_Fb_value_10 : decode prog_1_method_17_code 10 = .ok (.if_icmp .ne (5), 3) := by decide +kernel
theorem dd_Fb_value_13 : decode prog_1_method_17_code 13 = .ok (.iconst (-1), 1) := by decide +kernel
theorem dd_Fb_value_14 : decode prog_1_method_17_code 14 = .ok (.ireturn, 1) := by decide +kernel
theorem dd_Fb_value_15 : decode prog_1_method_17_code 15 = .ok (.iload_n 3, 1) := by decide +kernel
theorem dd_Fb_value_16 : decode prog_1_method_17_code 16 = .ok (.bipush 24, 2) := by decide +kernel
theorem dd_Fb_value_18 : decode prog_1_method_17_code 18 = .ok (.idiv, 1) := by decide +kernel
theorem dd_Fb_value_19 : decode prog_1_method_17_code 19 = .ok (.istore 4, 2) := by decide +kernel
theorem dd_Fb_value_21 : decode prog_1_method_17_code 21 = .ok (.iload_n 2, 1) := by decide +kernel
theorem dd_Fb_value_22 : decode prog_1_method_17_code 22 = .ok (.ifCond .lt (17), 3) := by decide +kernel
theorem dd_Fb_value_25 : decode prog_1_method_17_code 25 = .ok (.iload_n 2, 1) := by decide +kernel
theorem dd_Fb_value_26 : decode prog_1_method_17_code 26 = .ok (.aload_n 0, 1) := by decide +kernel
theorem dd_Fb_value_27 : decode prog_1_method_17_code 27 = .ok (.getfield 10, 3) := by decide +kernel
theorem dd_Fb_value_30 : decode prog_1_method_17_code 30 = .ok (.iload 4, 2) := by decide +kernel
theorem dd_Fb_value_32 : decode prog_1_method_17_code 32 = .ok (.iload_n 1, 1) := by decide +kernel
theorem dd_Fb_value_33 : decode prog_1_method_17_code 33 = .ok (.invokevirtual 117, 3) := by decide +kernel
theorem dd_Fb_value_36 : decode prog_1_method_17_code 36 = .ok (.if_icmp .lt (5), 3) := by decide +kernel
theorem dd_Fb_value_39 : decode prog_1_method_17_code 39 = .ok (.iconst (-1), 1) := by decide +kernel
theorem dd_Fb_value_40 : decode prog_1_method_17_code 40 = .ok (.ireturn, 1) := by decide +kernel
theorem dd_Fb_value_41 : decode prog_1_method_17_code 41 = .ok (.aload_n 0, 1) := by decide +kernel
theorem dd_Fb_value_42 : decode prog_1_method_17_code 42 = .ok (.getfield 39, 3) := by decide +kernel
theorem dd_Fb_value_45 : decode prog_1_method_17_code 45 = .ok (.getfield 121, 3) := by decide +kernel
theorem dd_Fb_value_48 : decode prog_1_method_17_code 48 = .ok (.aload_n 0, 1) := by decide +kernel
theorem dd_Fb_value_49 : decode prog_1_method_17_code 49 = .ok (.getfield 21, 3) := by decide +kernel
theorem dd_Fb_value_52 : decode prog_1_method_17_code 52 = .ok (.getfield 124, 3) := by decide +kernel
theorem dd_Fb_value_55 : decode prog_1_method_17_code 55 = .ok (.iload 4, 2) := by decide +kernel
theorem dd_Fb_value_57 : decode prog_1_method_17_code 57 = .ok (.aaload, 1) := by decide +kernel
theorem dd_Fb_value_58 : decode prog_1_method_17_code 58 = .ok (.iload_n 1, 1) := by decide +kernel
theorem dd_Fb_value_59 : decode prog_1_method_17_code 59 = .ok (.iaload, 1) := by decide +kernel
theorem dd_Fb_value_60 : decode prog_1_method_17_code 60 = .ok (.iload_n 2, 1) := by decide +kernel
theorem dd_Fb_value_61 : decode prog_1_method_17_code 61 = .ok (.iadd, 1) := by decide +kernel
theorem dd_Fb_value_62 : decode prog_1_method_17_code 62 = .ok (.iaload, 1) := by decide +kernel
theorem dd_Fb_value_63 : decode prog_1_method_17_code 63 = .ok (.ireturn, 1) := by decide +kernel
theorem dd_Fb_output_0 : decode prog_1_method_18_code 0 = .ok (.iload_n 1, 1) := by decide +kernel
theorem dd_Fb_output_1 : decode prog_1_method_18_code 1 = .ok (.iconst (-1), 1) := by decide +kernel
theorem dd_Fb_output_2 : decode prog_1_method_18_code 2 = .ok (.if_icmp .ne (11), 3) := by decide +kernel
theorem dd_Fb_output_5 : decode prog_1_method_18_code 5 = .ok (.aload_n 0, 1) := by decide +kernel
theorem dd_Fb_output_6 : decode prog_1_method_18_code 6 = .ok (.getfield 39, 3) := by decide +kernel
theorem dd_Fb_output_9 : decode prog_1_method_18_code 9 = .ok (.getfield 128, 3) := by decide +kernel
theorem dd_Fb_output_12 : decode prog_1_method_18_code 12 = .ok (.ireturn, 1) := by decide +kernel
theorem dd_Fb_output_13 : decode prog_1_method_18_code 13 = .ok (.iload_n 1, 1) := by decide +kernel
theorem dd_Fb_output_14 : decode prog_1_method_18_code 14 = .ok (.ifCond .lt (32), 3) := by decide +kernel
theorem dd_Fb_output_17 : decode prog_1_method_18_code 17 = .ok (.iload_n 1, 1) := by decide +kernel
theorem dd_Fb_output_18 : decode prog_1_method_18_code 18 = .ok (.aload_n 0, 1) := by decide +kernel
theorem dd_Fb_output_19 : decode prog_1_method_18_code 19 = .ok (.getfield 39, 3) := by decide +kernel
theorem dd_Fb_output_22 : decode prog_1_method_18_code 22 = .ok (.getfield 128, 3) := by decide +kernel
theorem dd_Fb_output_25 : decode prog_1_method_18_code 25 = .ok (.if_icmp .ge (21), 3) := by decide +kernel
theorem dd_Fb_output_28 : decode prog_1_method_18_code 28 = .ok (.iload_n 1, 1) := by decide +kernel
theorem dd_Fb_output_29 : decode prog_1_method_18_code 29 = .ok (.bipush 100, 2) := by decide +kernel
theorem dd_Fb_output_31 : decode prog_1_method_18_code 31 = .ok (.if_icmp .ge (15), 3) := by decide +kernel
theorem dd_Fb_output_34 : decode prog_1_method_18_code 34 = .ok (.aload_n 0, 1) := by decide +kernel
theorem dd_Fb_output_35 : decode prog_1_method_18_code 35 = .ok (.getfield 39, 3) := by decide +kernel
theorem dd_Fb_output_38 : decode prog_1_method_18_code 38 = .ok (.getfield 131, 3) := by decide +kernel
theorem dd_Fb_output_41 : decode prog_1_method_18_code 41 = .ok (.iload_n 1, 1) := by decide +kernel
theorem dd_Fb_output_42 : decode prog_1_method_18_code 42 = .ok (.iaload, 1) := by decide +kernel
theorem dd_Fb_output_43 : decode prog_1_method_18_code 43 = .ok (.goto (4), 3) := by decide +kernel
theorem dd_Fb_output_46 : decode prog_1_method_18_code 46 = .ok (.iconst (-1), 1) := by decide +kernel
theorem dd_Fb_output_47 : decode prog_1_method_18_code 47 = .ok (.ireturn, 1) := by decide +kernel
theorem dd_Fb_accepted_0 : decode prog_1_method_19_code 0 = .ok (.iload_n 1, 1) := by decide +kernel
theorem dd_Fb_accepted_1 : decode prog_1_method_19_code 1 = .ok (.iconst (-1), 1) := by decide +kernel
theorem dd_Fb_accepted_2 : decode prog_1_method_19_code 2 = .ok (.if_icmp .eq (7), 3) := by decide +kernel
theorem dd_Fb_accepted_5 : decode prog_1_method_19_code 5 = .ok (.aload_n 0, 1) := by decide +kernel
theorem dd_Fb_accepted_6 : decode prog_1_method_19_code 6 = .ok (.invokevirtual 62, 3) := by decide +kernel
theorem dd_Fb_accepted_9 : decode prog_1_method_19_code 9 = .ok (.iload_n 1, 1) := by decide +kernel
theorem dd_Fb_accepted_10 : decode prog_1_method_19_code 10 = .ok (.ireturn, 1) := by decide +kernel
theorem dd_Fb_dropCode_0 : decode prog_1_method_20_code 0 = .ok (.aload_n 0, 1) := by decide +kernel
theorem dd_Fb_dropCode_1 : decode prog_1_method_20_code 1 = .ok (.iconst 0, 1) := by decide +kernel
theorem dd_Fb_dropCode_2 : decode prog_1_method_20_code 2 = .ok (.putfield 43, 3) := by decide +kernel
theorem dd_Fb_dropCode_5 : decode prog_1_method_20_code 5 = .ok (.aload_n 0, 1) := by decide +kernel
theorem dd_Fb_dropCode_6 : decode prog_1_method_20_code 6 = .ok (.getfield 39, 3) := by decide +kernel
theorem dd_Fb_dropCode_9 : decode prog_1_method_20_code 9 = .ok (.invokevirtual 134, 3) := by decide +kernel
theorem dd_Fb_dropCode_12 : decode prog_1_method_20_code 12 = .ok (.return_, 1) := by decide +kernel
theorem dd_Fb_faultOfProgram_0 : decode prog_1_method_21_code 0 = .ok (.aload_n 0, 1) := by decide +kernel
theorem dd_Fb_faultOfProgram_1 : decode prog_1_method_21_code 1 = .ok (.getfield 10, 3) := by decide +kernel
theorem dd_Fb_faultOfProgram_4 : decode prog_1_method_21_code 4 = .ok (.invokevirtual 137, 3) := by decide +kernel
theorem dd_Fb_faultOfProgram_7 : decode prog_1_method_21_code 7 = .ok (.ifCond .ne (5), 3) := by decide +kernel
theorem dd_Fb_faultOfProgram_10 : decode prog_1_method_21_code 10 = .ok (.iconst 1, 1) := by decide +kernel
theorem dd_Fb_faultOfProgram_11 : decode prog_1_method_21_code 11 = .ok (.ireturn, 1) := by decide +kernel
theorem dd_Fb_faultOfProgram_12 : decode prog_1_method_21_code 12 = .ok (.aload_n 0, 1) := by decide +kernel
theorem dd_Fb_faultOfProgram_13 : decode prog_1_method_21_code 13 = .ok (.getfield 10, 3) := by decide +kernel
theorem dd_Fb_faultOfProgram_16 : decode prog_1_method_21_code 16 = .ok (.invokevirtual 141, 3) := by decide +kernel
theorem dd_Fb_faultOfProgram_19 : decode prog_1_method_21_code 19 = .ok (.ifCond .ne (5), 3) := by decide +kernel
theorem dd_Fb_faultOfProgram_22 : decode prog_1_method_21_code 22 = .ok (.iconst 2, 1) := by decide +kernel
theorem dd_Fb_faultOfProgram_23 : decode prog_1_method_21_code 23 = .ok (.ireturn, 1) := by decide +kernel
theorem dd_Fb_faultOfProgram_24 : decode prog_1_method_21_code 24 = .ok (.aload_n 0, 1) := by decide +kernel
theorem dd_Fb_faultOfProgram_25 : decode prog_1_method_21_code 25 = .ok (.getfield 10, 3) := by decide +kernel
theorem dd_Fb_faultOfProgram_28 : decode prog_1_method_21_code 28 = .ok (.invokevirtual 144, 3) := by decide +kernel
theorem dd_Fb_faultOfProgram_31 : decode prog_1_method_21_code 31 = .ok (.ifCond .ne (5), 3) := by decide +kernel
theorem dd_Fb_faultOfProgram_34 : decode prog_1_method_21_code 34 = .ok (.iconst 3, 1) := by decide +kernel
theorem dd_Fb_faultOfProgram_35 : decode prog_1_method_21_code 35 = .ok (.ireturn, 1) := by decide +kernel
theorem dd_Fb_faultOfProgram_36 : decode prog_1_method_21_code 36 = .ok (.aload_n 0, 1) := by decide +kernel
theorem dd_Fb_faultOfProgram_37 : decode prog_1_method_21_code 37 = .ok (.getfield 21, 3) := by decide +kernel
theorem dd_Fb_faultOfProgram_40 : decode prog_1_method_21_code 40 = .ok (.invokevirtual 147, 3) := by decide +kernel
theorem dd_Fb_faultOfProgram_43 : decode prog_1_method_21_code 43 = .ok (.aload_n 0, 1) := by decide +kernel
theorem dd_Fb_faultOfProgram_44 : decode prog_1_method_21_code 44 = .ok (.getfield 21, 3) := by decide +kernel
theorem dd_Fb_faultOfProgram_47 : decode prog_1_method_21_code 47 = .ok (.invokevirtual 150, 3) := by decide +kernel
theorem dd_Fb_faultOfProgram_50 : decode prog_1_method_21_code 50 = .ok (.ifCond .eq (5), 3) := by decide +kernel
theorem dd_Fb_faultOfProgram_53 : decode prog_1_method_21_code 53 = .ok (.iconst 4, 1) := by decide +kernel
theorem dd_Fb_faultOfProgram_54 : decode prog_1_method_21_code 54 = .ok (.ireturn, 1) := by decide +kernel
theorem dd_Fb_faultOfProgram_55 : decode prog_1_method_21_code 55 = .ok (.aload_n 0, 1) := by decide +kernel
theorem dd_Fb_faultOfProgram_56 : decode prog_1_method_21_code 56 = .ok (.getfield 21, 3) := by decide +kernel
theorem dd_Fb_faultOfProgram_59 : decode prog_1_method_21_code 59 = .ok (.invokevirtual 153, 3) := by decide +kernel
theorem dd_Fb_faultOfProgram_62 : decode prog_1_method_21_code 62 = .ok (.aload_n 0, 1) := by decide +kernel
theorem dd_Fb_faultOfProgram_63 : decode prog_1_method_21_code 63 = .ok (.getfield 21, 3) := by decide +kernel
theorem dd_Fb_faultOfProgram_66 : decode prog_1_method_21_code 66 = .ok (.invokevirtual 156, 3) := by decide +kernel
theorem dd_Fb_faultOfProgram_69 : decode prog_1_method_21_code 69 = .ok (.ifCond .ne (5), 3) := by decide +kernel
theorem dd_Fb_faultOfProgram_72 : decode prog_1_method_21_code 72 = .ok (.iconst 5, 1) := by decide +kernel
theorem dd_Fb_faultOfProgram_73 : decode prog_1_method_21_code 73 = .ok (.ireturn, 1) := by decide +kernel
theorem dd_Fb_faultOfProgram_74 : decode prog_1_method_21_code 74 = .ok (.aload_n 0, 1) := by decide +kernel
theorem dd_Fb_faultOfProgram_75 : decode prog_1_method_21_code 75 = .ok (.getfield 21, 3) := by decide +kernel
theorem dd_Fb_faultOfProgram_78 : decode prog_1_method_21_code 78 = .ok (.invokevirtual 159, 3) := by decide +kernel
theorem dd_Fb_faultOfProgram_81 : decode prog_1_method_21_code 81 = .ok (.iconst 0, 1) := by decide +kernel
theorem dd_Fb_faultOfProgram_82 : decode prog_1_method_21_code 82 = .ok (.ireturn, 1) := by decide +kernel
theorem dd_Ja_fill_0 : decode prog_9_method_103_code 0 = .ok (.iconst 0, 1) := by decide +kernel
theorem dd_Ja_fill_1 : decode prog_9_method_103_code 1 = .ok (.istore_n 2, 1) := by decide +kernel
theorem dd_Ja_fill_2 : decode prog_9_method_103_code 2 = .ok (.aload_n 0, 1) := by decide +kernel
theorem dd_Ja_fill_3 : decode prog_9_method_103_code 3 = .ok (.arraylength, 1) := by decide +kernel
theorem dd_Ja_fill_4 : decode prog_9_method_103_code 4 = .ok (.istore_n 3, 1) := by decide +kernel
theorem dd_Ja_fill_5 : decode prog_9_method_103_code 5 = .ok (.iload_n 2, 1) := by decide +kernel
theorem dd_Ja_fill_6 : decode prog_9_method_103_code 6 = .ok (.iload_n 3, 1) := by decide +kernel
theorem dd_Ja_fill_7 : decode prog_9_method_103_code 7 = .ok (.if_icmp .ge (13), 3) := by decide +kernel
theorem dd_Ja_fill_10 : decode prog_9_method_103_code 10 = .ok (.aload_n 0, 1) := by decide +kernel
theorem dd_Ja_fill_11 : decode prog_9_method_103_code 11 = .ok (.iload_n 2, 1) := by decide +kernel
theorem dd_Ja_fill_12 : decode prog_9_method_103_code 12 = .ok (.iload_n 1, 1) := by decide +kernel
theorem dd_Ja_fill_13 : decode prog_9_method_103_code 13 = .ok (.iastore, 1) := by decide +kernel
theorem dd_Ja_fill_14 : decode prog_9_method_103_code 14 = .ok (.iinc 2 1, 3) := by decide +kernel
theorem dd_Ja_fill_17 : decode prog_9_method_103_code 17 = .ok (.goto (-12), 3) := by decide +kernel
theorem dd_Ja_fill_20 : decode prog_9_method_103_code 20 = .ok (.return_, 1) := by decide +kernel
