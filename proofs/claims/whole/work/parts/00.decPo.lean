theorem dd_Po_drop_0 : decode prog_4_method_2_code 0 = .ok (.aload_n 0, 1) := by decide +kernel
theorem dd_Po_drop_1 : decode prog_4_method_2_code 1 = .ok (.iconst (-1), 1) := by decide +kernel
theorem dd_Po_drop_2 : decode prog_4_method_2_code 2 = .ok (.putfield 21, 3) := by decide +kernel
theorem dd_Po_drop_5 : decode prog_4_method_2_code 5 = .ok (.aload_n 0, 1) := by decide +kernel
theorem dd_Po_drop_6 : decode prog_4_method_2_code 6 = .ok (.iconst 0, 1) := by decide +kernel
theorem dd_Po_drop_7 : decode prog_4_method_2_code 7 = .ok (.putfield 29, 3) := by decide +kernel
theorem dd_Po_drop_10 : decode prog_4_method_2_code 10 = .ok (.aload_n 0, 1) := by decide +kernel
theorem dd_Po_drop_11 : decode prog_4_method_2_code 11 = .ok (.iconst 0, 1) := by decide +kernel
theorem dd_Po_drop_12 : decode prog_4_method_2_code 12 = .ok (.putfield 32, 3) := by decide +kernel
theorem dd_Po_drop_15 : decode prog_4_method_2_code 15 = .ok (.return_, 1) := by decide +kernel
theorem dd_Po_begin_0 : decode prog_4_method_3_code 0 = .ok (.aload_n 0, 1) := by decide +kernel
theorem dd_Po_begin_1 : decode prog_4_method_3_code 1 = .ok (.getfield 9, 3) := by decide +kernel
theorem dd_Po_begin_4 : decode prog_4_method_3_code 4 = .ok (.iconst 0, 1) := by decide +kernel
theorem dd_Po_begin_5 : decode prog_4_method_3_code 5 = .ok (.invokestatic 35, 3) := by decide +kernel
theorem dd_Po_begin_8 : decode prog_4_method_3_code 8 = .ok (.aload_n 0, 1) := by decide +kernel
theorem dd_Po_begin_9 : decode prog_4_method_3_code 9 = .ok (.iconst 0, 1) := by decide +kernel
theorem dd_Po_begin_10 : decode prog_4_method_3_code 10 = .ok (.putfield 21, 3) := by decide +kernel
theorem dd_Po_begin_13 : decode prog_4_method_3_code 13 = .ok (.aload_n 0, 1) := by decide +kernel
theorem dd_Po_begin_14 : decode prog_4_method_3_code 14 = .ok (.iconst 0, 1) := by decide +kernel
theorem dd_Po_begin_15 : decode prog_4_method_3_code 15 = .ok (.putfield 29, 3) := by decide +kernel
theorem dd_Po_begin_18 : decode prog_4_method_3_code 18 = .ok (.aload_n 0, 1) := by decide +kernel
theorem dd_Po_begin_19 : decode prog_4_method_3_code 19 = .ok (.iconst 0, 1) := by decide +kernel
theorem dd_Po_begin_20 : decode prog_4_method_3_code 20 = .ok (.putfield 32, 3) := by decide +kernel
theorem dd_Po_begin_23 : decode prog_4_method_3_code 23 = .ok (.aload_n 0, 1) := by decide +kernel
theorem dd_Po_begin_24 : decode prog_4_method_3_code 24 = .ok (.iconst 0, 1) := by decide +kernel
theorem dd_Po_begin_25 : decode prog_4_method_3_code 25 = .ok (.putfield 41, 3) := by decide +kernel
theorem dd_Po_begin_28 : decode prog_4_method_3_code 28 = .ok (.aload_n 0, 1) := by decide +kernel
theorem dd_Po_begin_29 : decode prog_4_method_3_code 29 = .ok (.iconst 0, 1) := by decide +kernel
theorem dd_Po_begin_30 : decode prog_4_method_3_code 30 = .ok (.putfield 44, 3) := by decide +kernel
theorem dd_Po_begin_33 : decode prog_4_method_3_code 33 = .ok (.aload_n 0, 1) := by decide +kernel
theorem dd_Po_begin_34 : decode prog_4_method_3_code 34 = .ok (.iconst 0, 1) := by decide +kernel
theorem dd_Po_begin_35 : decode prog_4_method_3_code 35 = .ok (.putfield 47, 3) := by decide +kernel
theorem dd_Po_begin_38 : decode prog_4_method_3_code 38 = .ok (.aload_n 0, 1) := by decide +kernel
theorem dd_Po_begin_39 : decode prog_4_method_3_code 39 = .ok (.iconst 0, 1) := by decide +kernel
theorem dd_Po_begin_40 : decode prog_4_method_3_code 40 = .ok (.putfield 50, 3) := by decide +kernel
theorem dd_Po_begin_43 : decode prog_4_method_3_code 43 = .ok (.aload_n 0, 1) := by decide +kernel
theorem dd_Po_begin_44 : decode prog_4_method_3_code 44 = .ok (.iconst 0, 1) := by decide +kernel
theorem dd_Po_begin_45 : decode prog_4_method_3_code 45 = .ok (.putfield 53, 3) := by decide +kernel
theorem dd_Po_begin_48 : decode prog_4_method_3_code 48 = .ok (.aload_n 0, 1) := by decide +kernel
theorem dd_Po_begin_49 : decode prog_4_method_3_code 49 = .ok (.iconst 0, 1) := by decide +kernel
theorem dd_Po_begin_50 : decode prog_4_method_3_code 50 = .ok (.putfield 56, 3) := by decide +kernel
theorem dd_Po_begin_53 : decode prog_4_method_3_code 53 = .ok (.return_, 1) := by decide +kernel
theorem dd_Po_label_0 : decode prog_4_method_4_code 0 = .ok (.aload_n 0, 1) := by decide +kernel
theorem dd_Po_label_1 : decode prog_4_method_4_code 1 = .ok (.getfield 21, 3) := by decide +kernel
theorem dd_Po_label_4 : decode prog_4_method_4_code 4 = .ok (.ifCond .ne (10), 3) := by decide +kernel
theorem dd_Po_label_7 : decode prog_4_method_4_code 7 = .ok (.aload_n 0, 1) := by decide +kernel
theorem dd_Po_label_8 : decode prog_4_method_4_code 8 = .ok (.invokevirtual 60, 3) := by decide +kernel
theorem dd_Po_label_11 : decode prog_4_method_4_code 11 = .ok (.goto (4), 3) := by decide +kernel
theorem dd_Po_label_14 : decode prog_4_method_4_code 14 = .ok (.iconst (-1), 1) := by decide +kernel
theorem dd_Po_label_15 : decode prog_4_method_4_code 15 = .ok (.ireturn, 1) := by decide +kernel
theorem dd_Po_labelHere_0 : decode prog_4_method_5_code 0 = .ok (.aload_n 0, 1) := by decide +kernel
theorem dd_Po_labelHere_1 : decode prog_4_method_5_code 1 = .ok (.getfield 44, 3) := by decide +kernel
theorem dd_Po_labelHere_4 : decode prog_4_method_5_code 4 = .ok (.ifCond .lt (28), 3) := by decide +kernel
theorem dd_Po_labelHere_7 : decode prog_4_method_5_code 7 = .ok (.aload_n 0, 1) := by decide +kernel
theorem dd_Po_labelHere_8 : decode prog_4_method_5_code 8 = .ok (.getfield 44, 3) := by decide +kernel
theorem dd_Po_labelHere_11 : decode prog_4_method_5_code 11 = .ok (.sipush 500, 3) := by decide +kernel
theorem dd_Po_labelHere_14 : decode prog_4_method_5_code 14 = .ok (.if_icmp .ge (18), 3) := by decide +kernel
theorem dd_Po_labelHere_17 : decode prog_4_method_5_code 17 = .ok (.aload_n 0, 1) := by decide +kernel
theorem dd_Po_labelHere_18 : decode prog_4_method_5_code 18 = .ok (.getfield 25, 3) := by decide +kernel
theorem dd_Po_labelHere_21 : decode prog_4_method_5_code 21 = .ok (.getfield 64, 3) := by decide +kernel
theorem dd_Po_labelHere_24 : decode prog_4_method_5_code 24 = .ok (.aload_n 0, 1) := by decide +kernel
theorem dd_Po_labelHere_25 : decode prog_4_method_5_code 25 = .ok (.getfield 44, 3) := by decide +kernel
theorem dd_Po_labelHere_28 : decode prog_4_method_5_code 28 = .ok (.iaload, 1) := by decide +kernel
theorem dd_Po_labelHere_29 : decode prog_4_method_5_code 29 = .ok (.goto (4), 3) := by decide +kernel
theorem dd_Po_labelHere_32 : decode prog_4_method_5_code 32 = .ok (.iconst (-1), 1) := by decide +kernel
theorem dd_Po_labelHere_33 : decode prog_4_method_5_code 33 = .ok (.ireturn, 1) := by decide +kernel
theorem dd_Po_perform_0 : decode prog_4_method_6_code 0 = .ok (.iconst 0, 1) := by decide +kernel
theorem dd_Po_perform_1 : decode prog_4_method_6_code 1 = .ok (.istore_n 2, 1) := by decide +kernel
theorem dd_Po_perform_2 : decode prog_4_method_6_code 2 = .ok (.iload_n 2, 1) := by decide +kernel
theorem dd_Po_perform_3 : decode prog_4_method_6_code 3 = .ok (.iload_n 1, 1) := by decide +kernel
theorem dd_Po_perform_4 : decode prog_4_method_6_code 4 = .ok (.if_icmp .ge (20), 3) := by decide +kernel
theorem dd_Po_perform_7 : decode prog_4_method_6_code 7 = .ok (.aload_n 0, 1) := by decide +kernel
theorem dd_Po_perform_8 : decode prog_4_method_6_code 8 = .ok (.getfield 21, 3) := by decide +kernel
theorem dd_Po_perform_11 : decode prog_4_method_6_code 11 = .ok (.ifCond .ne (13), 3) := by decide +kernel
theorem dd_Po_perform_14 : decode prog_4_method_6_code 14 = .ok (.aload_n 0, 1) := by decide +kernel
theorem dd_Po_perform_15 : decode prog_4_method_6_code 15 = .ok (.invokevirtual 69, 3) := by decide +kernel
theorem dd_Po_perform_18 : decode prog_4_method_6_code 18 = .ok (.iinc 2 1, 3) := by decide +kernel
theorem dd_Po_perform_21 : decode prog_4_method_6_code 21 = .ok (.goto (-19), 3) := by decide +kernel
theorem dd_Po_perform_24 : decode prog_4_method_6_code 24 = .ok (.iload_n 2, 1) := by decide +kernel
theorem dd_Po_perform_25 : decode prog_4_method_6_code 25 = .ok (.ireturn, 1) := by decide +kernel
theorem dd_Po_performOne_0 : decode prog_4_method_7_code 0 = .ok (.iconst 1, 1) := by decide +kernel
theorem dd_Po_performOne_1 : decode prog_4_method_7_code 1 = .ok (.istore_n 1, 1) := by decide +kernel
theorem dd_Po_performOne_2 : decode prog_4_method_7_code 2 = .ok (.iconst 0, 1) := by decide +kernel
theorem dd_Po_performOne_3 : decode prog_4_method_7_code 3 = .ok (.istore_n 2, 1) := by decide +kernel
theorem dd_Po_performOne_4 : decode prog_4_method_7_code 4 = .ok (.iload_n 2, 1) := by decide +kernel
theorem dd_Po_performOne_5 : decode prog_4_method_7_code 5 = .ok (.bipush 64, 2) := by decide +kernel
theorem dd_Po_performOne_7 : decode prog_4_method_7_code 7 = .ok (.if_icmp .ge (38), 3) := by decide +kernel
theorem dd_Po_performOne_10 : decode prog_4_method_7_code 10 = .ok (.iload_n 1, 1) := by decide +kernel
theorem dd_Po_performOne_11 : decode prog_4_method_7_code 11 = .ok (.ifCond .eq (34), 3) := by decide +kernel
theorem dd_Po_performOne_14 : decode prog_4_method_7_code 14 = .ok (.aload_n 0, 1) := by decide +kernel
theorem dd_Po_performOne_15 : decode prog_4_method_7_code 15 = .ok (.invokevirtual 72, 3) := by decide +kernel
theorem dd_Po_performOne_18 : decode prog_4_method_7_code 18 = .ok (.aload_n 0, 1) := by decide +kernel
theorem dd_Po_performOne_19 : decode prog_4_method_7_code 19 = .ok (.getfield 21, 3) := by decide +kernel
theorem dd_Po_performOne_22 : decode prog_4_method_7_code 22 = .ok (.ifCond .ne (15), 3) := by decide +kernel
theorem dd_Po_performOne_25 : decode prog_4_method_7_code 25 = .ok (.aload_n 0, 1) := by decide +kernel
theorem dd_Po_performOne_26 : decode prog_4_method_7_code 26 = .ok (.invokevirtual 60, 3) := by decide +kernel
theorem dd_Po_performOne_29 : decode prog_4_method_7_code 29 = .ok (.iconst (-1), 1) := by decide +kernel
theorem dd_Po_performOne_30 : decode prog_4_method_7_code 30 = .ok (.if_icmp .ne (7), 3) := by decide +kernel
theorem dd_Po_performOne_33 : decode prog_4_method_7_code 33 = .ok (.iconst 1, 1) := by decide +kernel
theorem dd_Po_performOne_34 : decode prog_4_method_7_code 34 = .ok (.goto (4), 3) := by decide +kernel
theorem dd_Po_performOne_37 : decode prog_4_method_7_code 37 = .ok (.iconst 0, 1) := by decide +kernel
theorem dd_Po_performOne_38 : decode prog_4_method_7_code 38 = .ok (.istore_n 1, 1) := by decide +kernel
theorem dd_Po_performOne_39 : decode prog_4_method_7_code 39 = .ok (.iinc 2 1, 3) := by decide +kernel
theorem dd_Po_performOne_42 : decode prog_4_method_7_code 42 = .ok (.goto (-38), 3) := by decide +kernel
theorem dd_Po_performOne_45 : decode prog_4_method_7_code 45 = .ok (.return_, 1) := by decide +kernel
theorem dd_Po_step_0 : decode prog_4_method_8_code 0 = .ok (.aload_n 0, 1) := by decide +kernel
theorem dd_Po_step_1 : decode prog_4_method_8_code 1 = .ok (.invokevirtual 75, 3) := by decide +kernel
theorem dd_Po_step_4 : decode prog_4_method_8_code 4 = .ok (.istore_n 1, 1) := by decide +kernel
theorem dd_Po_step_5 : decode prog_4_method_8_code 5 = .ok (.iload_n 1, 1) := by decide +kernel
theorem dd_Po_step_6 : decode prog_4_method_8_code 6 = .ok (.iconst 3, 1) := by decide +kernel
theorem dd_Po_step_7 : decode prog_4_method_8_code 7 = .ok (.ishr, 1) := by decide +kernel
theorem dd_Po_step_8 : decode prog_4_method_8_code 8 = .ok (.istore_n 2, 1) := by decide +kernel
theorem dd_Po_step_9 : decode prog_4_method_8_code 9 = .ok (.iload_n 1, 1) := by decide +kernel
theorem dd_Po_step_10 : decode prog_4_method_8_code 10 = .ok (.bipush 7, 2) := by decide +kernel
theorem dd_Po_step_12 : decode prog_4_method_8_code 12 = .ok (.iand, 1) := by decide +kernel
theorem dd_Po_step_13 : decode prog_4_method_8_code 13 = .ok (.istore_n 3, 1) := by decide +kernel
theorem dd_Po_step_14 : decode prog_4_method_8_code 14 = .ok (.aload_n 0, 1) := by decide +kernel
theorem dd_Po_step_15 : decode prog_4_method_8_code 15 = .ok (.dup, 1) := by decide +kernel
theorem dd_Po_step_16 : decode prog_4_method_8_code 16 = .ok (.getfield 29, 3) := by decide +kernel
theorem dd_Po_step_19 : decode prog_4_method_8_code 19 = .ok (.iconst 1, 1) := by decide +kernel
theorem dd_Po_step_20 : decode prog_4_method_8_code 20 = .ok (.iadd, 1) := by decide +kernel
theorem dd_Po_step_21 : decode prog_4_method_8_code 21 = .ok (.putfield 29, 3) := by decide +kernel
theorem dd_Po_step_24 : decode prog_4_method_8_code 24 = .ok (.iload_n 2, 1) := by decide +kernel
theorem dd_Po_step_25 : decode prog_4_method_8_code 25 = .ok (.bipush 11, 2) := by decide +kernel
theorem dd_Po_step_27 : decode prog_4_method_8_code 27 = .ok (.if_icmp .gt (12), 3) := by decide +kernel
theorem dd_Po_step_30 : decode prog_4_method_8_code 30 = .ok (.aload_n 0, 1) := by decide +kernel
theorem dd_Po_step_31 : decode prog_4_method_8_code 31 = .ok (.iload_n 2, 1) := by decide +kernel
theorem dd_Po_step_32 : decode prog_4_method_8_code 32 = .ok (.iload_n 3, 1) := by decide +kernel
theorem dd_Po_step_33 : decode prog_4_method_8_code 33 = .ok (.invokevirtual 78, 3) := by decide +kernel
theorem dd_Po_step_36 : decode prog_4_method_8_code 36 = .ok (.goto (36), 3) := by decide +kernel
theorem dd_Po_step_39 : decode prog_4_method_8_code 39 = .ok (.iload_n 3, 1) := by decide +kernel
theorem dd_Po_step_40 : decode prog_4_method_8_code 40 = .ok (.bipush 6, 2) := by decide +kernel
theorem dd_Po_step_42 : decode prog_4_method_8_code 42 = .ok (.if_icmp .ne (11), 3) := by decide +kernel
theorem dd_Po_step_45 : decode prog_4_method_8_code 45 = .ok (.aload_n 0, 1) := by decide +kernel
theorem dd_Po_step_46 : decode prog_4_method_8_code 46 = .ok (.iload_n 2, 1) := by decide +kernel
theorem dd_Po_step_47 : decode prog_4_method_8_code 47 = .ok (.invokevirtual 82, 3) := by decide +kernel
theorem dd_Po_step_50 : decode prog_4_method_8_code 50 = .ok (.goto (22), 3) := by decide +kernel
theorem dd_Po_step_53 : decode prog_4_method_8_code 53 = .ok (.iload_n 3, 1) := by decide +kernel
theorem dd_Po_step_54 : decode prog_4_method_8_code 54 = .ok (.bipush 7, 2) := by decide +kernel
theorem dd_Po_step_56 : decode prog_4_method_8_code 56 = .ok (.if_icmp .ne (11), 3) := by decide +kernel
theorem dd_Po_step_59 : decode prog_4_method_8_code 59 = .ok (.aload_n 0, 1) := by decide +kernel
theorem dd_Po_step_60 : decode prog_4_method_8_code 60 = .ok (.iload_n 2, 1) := by decide +kernel
theorem dd_Po_step_61 : decode prog_4_method_8_code 61 = .ok (.invokevirtual 86, 3) := by decide +kernel
theorem dd_Po_step_64 : decode prog_4_method_8_code 64 = .ok (.goto (8), 3) := by decide +kernel
theorem dd_Po_step_67 : decode prog_4_method_8_code 67 = .ok (.aload_n 0, 1) := by decide +kernel
theorem dd_Po_step_68 : decode prog_4_method_8_code 68 = .ok (.iload_n 2, 1) := by decide +kernel
theorem dd_Po_step_69 : decode prog_4_method_8_code 69 = .ok (.invokevirtual 89, 3) := by decide +kernel
theorem dd_Po_step_72 : decode prog_4_method_8_code 72 = .ok (.return_, 1) := by decide +kernel
theorem dd_Po_fetch_0 : decode prog_4_method_9_code 0 = .ok (.aload_n 0, 1) := by decide +kernel
theorem dd_Po_fetch_1 : decode prog_4_method_9_code 1 = .ok (.getfield 44, 3) := by decide +kernel
theorem dd_Po_fetch_4 : decode prog_4_method_9_code 4 = .ok (.istore_n 1, 1) := by decide +kernel
theorem dd_Po_fetch_5 : decode prog_4_method_9_code 5 = .ok (.aload_n 0, 1) := by decide +kernel
theorem dd_Po_fetch_6 : decode prog_4_method_9_code 6 = .ok (.dup, 1) := by decide +kernel
theorem dd_Po_fetch_7 : decode prog_4_method_9_code 7 = .ok (.getfield 44, 3) := by decide +kernel
theorem dd_Po_fetch_10 : decode prog_4_method_9_code 10 = .ok (.iconst 1, 1) := by decide +kernel
theorem dd_Po_fetch_11 : decode prog_4_method_9_code 11 = .ok (.iadd, 1) := by decide +kernel
theorem dd_Po_fetch_12 : decode prog_4_method_9_code 12 = .ok (.putfield 44, 3) := by decide +kernel
theorem dd_Po_fetch_15 : decode prog_4_method_9_code 15 = .ok (.iload_n 1, 1) := by decide +kernel
theorem dd_Po_fetch_16 : decode prog_4_method_9_code 16 = .ok (.ifCond .lt (22), 3) := by decide +kernel
theorem dd_Po_fetch_19 : decode prog_4_method_9_code 19 = .ok (.iload_n 1, 1) := by decide +kernel
theorem dd_Po_fetch_20 : decode prog_4_method_9_code 20 = .ok (.sipush 500, 3) := by decide +kernel
theorem dd_Po_fetch_23 : decode prog_4_method_9_code 23 = .ok (.if_icmp .ge (15), 3) := by decide +kernel
theorem dd_Po_fetch_26 : decode prog_4_method_9_code 26 = .ok (.aload_n 0, 1) := by decide +kernel
theorem dd_Po_fetch_27 : decode prog_4_method_9_code 27 = .ok (.getfield 25, 3) := by decide +kernel
theorem dd_Po_fetch_30 : decode prog_4_method_9_code 30 = .ok (.getfield 92, 3) := by decide +kernel
theorem dd_Po_fetch_33 : decode prog_4_method_9_code 33 = .ok (.iload_n 1, 1) := by decide +kernel
theorem dd_Po_fetch_34 : decode prog_4_method_9_code 34 = .ok (.iaload, 1) := by decide +kernel
theorem dd_Po_fetch_35 : decode prog_4_method_9_code 35 = .ok (.goto (6), 3) := by decide +kernel
theorem dd_Po_fetch_38 : decode prog_4_method_9_code 38 = .ok (.sipush 176, 3) := by decide +kernel
theorem dd_Po_fetch_41 : decode prog_4_method_9_code 41 = .ok (.ireturn, 1) := by decide +kernel
theorem dd_Po_fetchOperand_0 : decode prog_4_method_10_code 0 = .ok (.aload_n 0, 1) := by decide +kernel
theorem dd_Po_fetchOperand_1 : decode prog_4_method_10_code 1 = .ok (.invokevirtual 75, 3) := by decide +kernel
theorem dd_Po_fetchOperand_4 : decode prog_4_method_10_code 4 = .ok (.istore_n 2, 1) := by decide +kernel
theorem dd_Po_fetchOperand_5 : decode prog_4_method_10_code 5 = .ok (.iload_n 1, 1) := by decide +kernel
theorem dd_Po_fetchOperand_6 : decode prog_4_method_10_code 6 = .ok (.iconst 3, 1) := by decide +kernel
theorem dd_Po_fetchOperand_7 : decode prog_4_method_10_code 7 = .ok (.if_icmp .eq (8), 3) := by decide +kernel
theorem dd_Po_fetchOperand_10 : decode prog_4_method_10_code 10 = .ok (.iload_n 1, 1) := by decide +kernel
theorem dd_Po_fetchOperand_11 : decode prog_4_method_10_code 11 = .ok (.iconst 5, 1) := by decide +kernel
theorem dd_Po_fetchOperand_12 : decode prog_4_method_10_code 12 = .ok (.if_icmp .ne (14), 3) := by decide +kernel
theorem dd_Po_fetchOperand_15 : decode prog_4_method_10_code 15 = .ok (.iload_n 2, 1) := by decide +kernel
theorem dd_Po_fetchOperand_16 : decode prog_4_method_10_code 16 = .ok (.sipush 256, 3) := by decide +kernel
theorem dd_Po_fetchOperand_19 : decode prog_4_method_10_code 19 = .ok (.aload_n 0, 1) := by decide +kernel
theorem dd_Po_fetchOperand_20 : decode prog_4_method_10_code 20 = .ok (.invokevirtual 75, 3) := by decide +kernel
theorem dd_Po_fetchOperand_23 : decode prog_4_method_10_code 23 = .ok (.imul, 1) := by decide +kernel
theorem dd_Po_fetchOperand_24 : decode prog_4_method_10_code 24 = .ok (.iadd, 1) := by decide +kernel
theorem dd_Po_fetchOperand_25 : decode prog_4_method_10_code 25 = .ok (.istore_n 2, 1) := by decide +kernel
theorem dd_Po_fetchOperand_26 : decode prog_4_method_10_code 26 = .ok (.iload_n 1, 1) := by decide +kernel
theorem dd_Po_fetchOperand_27 : decode prog_4_method_10_code 27 = .ok (.iconst 4, 1) := by decide +kernel
theorem dd_Po_fetchOperand_28 : decode prog_4_method_10_code 28 = .ok (.if_icmp .eq (8), 3) := by decide +kernel
theorem dd_Po_fetchOperand_31 : decode prog_4_method_10_code 31 = .ok (.iload_n 1, 1) := by decide +kernel
theorem dd_Po_fetchOperand_32 : decode prog_4_method_10_code 32 = .ok (.iconst 5, 1) := by decide +kernel
theorem dd_Po_fetchOperand_33 : decode prog_4_method_10_code 33 = .ok (.if_icmp .ne (12), 3) := by decide +kernel
theorem dd_Po_fetchOperand_36 : decode prog_4_method_10_code 36 = .ok (.iload_n 2, 1) := by decide +kernel
theorem dd_Po_fetchOperand_37 : decode prog_4_method_10_code 37 = .ok (.aload_n 0, 1) := by decide +kernel
theorem dd_Po_fetchOperand_38 : decode prog_4_method_10_code 38 = .ok (.getfield 50, 3) := by decide +kernel
theorem dd_Po_fetchOperand_41 : decode prog_4_method_10_code 41 = .ok (.iadd, 1) := by decide +kernel
theorem dd_Po_fetchOperand_42 : decode prog_4_method_10_code 42 = .ok (.goto (4), 3) := by decide +kernel
theorem dd_Po_fetchOperand_45 : decode prog_4_method_10_code 45 = .ok (.iload_n 2, 1) := by decide +kernel
theorem dd_Po_fetchOperand_46 : decode prog_4_method_10_code 46 = .ok (.ireturn, 1) := by decide +kernel
theorem dd_Po_read_0 : decode prog_4_method_11_code 0 = .ok (.iload_n 1, 1) := by decide +kernel
theorem dd_Po_read_1 : decode prog_4_method_11_code 1 = .ok (.ifCond .lt (19), 3) := by decide +kernel
theorem dd_Po_read_4 : decode prog_4_method_11_code 4 = .ok (.iload_n 1, 1) := by decide +kernel
theorem dd_Po_read_5 : decode prog_4_method_11_code 5 = .ok (.sipush 128, 3) := by decide +kernel
theorem dd_Po_read_8 : decode prog_4_method_11_code 8 = .ok (.if_icmp .ge (12), 3) := by decide +kernel
theorem dd_Po_read_11 : decode prog_4_method_11_code 11 = .ok (.aload_n 0, 1) := by decide +kernel
theorem dd_Po_read_12 : decode prog_4_method_11_code 12 = .ok (.getfield 9, 3) := by decide +kernel
theorem dd_Po_read_15 : decode prog_4_method_11_code 15 = .ok (.iload_n 1, 1) := by decide +kernel
theorem dd_Po_read_16 : decode prog_4_method_11_code 16 = .ok (.iaload, 1) := by decide +kernel
theorem dd_Po_read_17 : decode prog_4_method_11_code 17 = .ok (.goto (4), 3) := by decide +kernel
theorem dd_Po_read_20 : decode prog_4_method_11_code 20 = .ok (.iconst 0, 1) := by decide +kernel
theorem dd_Po_read_21 : decode prog_4_method_11_code 21 = .ok (.ireturn, 1) := by decide +kernel
theorem dd_Po_write_0 : decode prog_4_method_12_code 0 = .ok (.iload_n 1, 1) := by decide +kernel
theorem dd_Po_write_1 : decode prog_4_method_12_code 1 = .ok (.ifCond .lt (17), 3) := by decide +kernel
theorem dd_Po_write_4 : decode prog_4_method_12_code 4 = .ok (.iload_n 1, 1) := by decide +kernel
theorem dd_Po_write_5 : decode prog_4_method_12_code 5 = .ok (.sipush 128, 3) := by decide +kernel
theorem dd_Po_write_8 : decode prog_4_method_12_code 8 = .ok (.if_icmp .ge (10), 3) := by decide +kernel
theorem dd_Po_write_11 : decode prog_4_method_12_code 11 = .ok (.aload_n 0, 1) := by decide +kernel
theorem dd_Po_write_12 : decode prog_4_method_12_code 12 = .ok (.getfield 9, 3) := by decide +kernel
theorem dd_Po_write_15 : decode prog_4_method_12_code 15 = .ok (.iload_n 1, 1) := by decide +kernel
theorem dd_Po_write_16 : decode prog_4_method_12_code 16 = .ok (.iload_n 2, 1) := by decide +kernel
theorem dd_Po_write_17 : decode prog_4_method_12_code 17 = .ok (.iastore, 1) := by decide +kernel
theorem dd_Po_write_18 : decode prog_4_method_12_code 18 = .ok (.return_, 1) := by decide +kernel
theorem dd_Po_doWithData_0 : decode prog_4_method_13_code 0 = .ok (.aload_n 0, 1) := by decide +kernel
theorem dd_Po_doWithData_1 : decode prog_4_method_13_code 1 = .ok (.iload_n 2, 1) := by decide +kernel
theorem dd_Po_doWithData_2 : decode prog_4_method_13_code 2 = .ok (.invokevirtual 95, 3) := by decide +kernel
theorem dd_Po_doWithData_5 : decode prog_4_method_13_code 5 = .ok (.istore_n 3, 1) := by decide +kernel
theorem dd_Po_doWithData_6 : decode prog_4_method_13_code 6 = .ok (.iload_n 2, 1) := by decide +kernel
theorem dd_Po_doWithData_7 : decode prog_4_method_13_code 7 = .ok (.iconst 1, 1) := by decide +kernel
theorem dd_Po_doWithData_8 : decode prog_4_method_13_code 8 = .ok (.if_icmp .ne (7), 3) := by decide +kernel
theorem dd_Po_doWithData_11 : decode prog_4_method_13_code 11 = .ok (.iload_n 3, 1) := by decide +kernel
theorem dd_Po_doWithData_12 : decode prog_4_method_13_code 12 = .ok (.goto (8), 3) := by decide +kernel
theorem dd_Po_doWithData_15 : decode prog_4_method_13_code 15 = .ok (.aload_n 0, 1) := by decide +kernel
theorem dd_Po_doWithData_16 : decode prog_4_method_13_code 16 = .ok (.iload_n 3, 1) := by decide +kernel
theorem dd_Po_doWithData_17 : decode prog_4_method_13_code 17 = .ok (.invokevirtual 99, 3) := by decide +kernel
theorem dd_Po_doWithData_20 : decode prog_4_method_13_code 20 = .ok (.istore 4, 2) := by decide +kernel
theorem dd_Po_doWithData_22 : decode prog_4_method_13_code 22 = .ok (.iload_n 1, 1) := by decide +kernel
theorem dd_Po_doWithData_23 : decode prog_4_method_13_code 23 = .ok (.tableswitch (207) (0) (10) #[57, 66, 78, 87, 100, 114, 128, 142, 154, 171, 194], 57) := by decide +kernel
theorem dd_Po_doWithData_80 : decode prog_4_method_13_code 80 = .ok (.aload_n 0, 1) := by decide +kernel
theorem dd_Po_doWithData_81 : decode prog_4_method_13_code 81 = .ok (.iload 4, 2) := by decide +kernel
theorem dd_Po_doWithData_83 : decode prog_4_method_13_code 83 = .ok (.invokevirtual 102, 3) := by decide +kernel
theorem dd_Po_doWithData_86 : decode prog_4_method_13_code 86 = .ok (.goto (154), 3) := by decide +kernel
theorem dd_Po_doWithData_89 : decode prog_4_method_13_code 89 = .ok (.aload_n 0, 1) := by decide +kernel
theorem dd_Po_doWithData_90 : decode prog_4_method_13_code 90 = .ok (.iload_n 3, 1) := by decide +kernel
theorem dd_Po_doWithData_91 : decode prog_4_method_13_code 91 = .ok (.aload_n 0, 1) := by decide +kernel
theorem dd_Po_doWithData_92 : decode prog_4_method_13_code 92 = .ok (.getfield 47, 3) := by decide +kernel
theorem dd_Po_doWithData_95 : decode prog_4_method_13_code 95 = .ok (.invokevirtual 105, 3) := by decide +kernel
theorem dd_Po_doWithData_98 : decode prog_4_method_13_code 98 = .ok (.goto (142), 3) := by decide +kernel
theorem dd_Po_doWithData_101 : decode prog_4_method_13_code 101 = .ok (.aload_n 0, 1) := by decide +kernel
theorem dd_Po_doWithData_102 : decode prog_4_method_13_code 102 = .ok (.iload 4, 2) := by decide +kernel
theorem dd_Po_doWithData_104 : decode prog_4_method_13_code 104 = .ok (.invokevirtual 108, 3) := by decide +kernel
theorem dd_Po_doWithData_107 : decode prog_4_method_13_code 107 = .ok (.goto (133), 3) := by decide +kernel
theorem dd_Po_doWithData_110 : decode prog_4_method_13_code 110 = .ok (.aload_n 0, 1) := by decide +kernel
theorem dd_Po_doWithData_111 : decode prog_4_method_13_code 111 = .ok (.sipush 255, 3) := by decide +kernel
theorem dd_Po_doWithData_114 : decode prog_4_method_13_code 114 = .ok (.iload 4, 2) := by decide +kernel
theorem dd_Po_doWithData_116 : decode prog_4_method_13_code 116 = .ok (.isub, 1) := by decide +kernel
theorem dd_Po_doWithData_117 : decode prog_4_method_13_code 117 = .ok (.invokevirtual 108, 3) := by decide +kernel
theorem dd_Po_doWithData_120 : decode prog_4_method_13_code 120 = .ok (.goto (120), 3) := by decide +kernel
theorem dd_Po_doWithData_123 : decode prog_4_method_13_code 123 = .ok (.aload_n 0, 1) := by decide +kernel
theorem dd_Po_doWithData_124 : decode prog_4_method_13_code 124 = .ok (.aload_n 0, 1) := by decide +kernel
theorem dd_Po_doWithData_125 : decode prog_4_method_13_code 125 = .ok (.getfield 47, 3) := by decide +kernel
theorem dd_Po_doWithData_128 : decode prog_4_method_13_code 128 = .ok (.iload 4, 2) := by decide +kernel
theorem dd_Po_doWithData_130 : decode prog_4_method_13_code 130 = .ok (.iand, 1) := by decide +kernel
theorem dd_Po_doWithData_131 : decode prog_4_method_13_code 131 = .ok (.invokevirtual 102, 3) := by decide +kernel
theorem dd_Po_doWithData_134 : decode prog_4_method_13_code 134 = .ok (.goto (106), 3) := by decide +kernel
theorem dd_Po_doWithData_137 : decode prog_4_method_13_code 137 = .ok (.aload_n 0, 1) := by decide +kernel
theorem dd_Po_doWithData_138 : decode prog_4_method_13_code 138 = .ok (.aload_n 0, 1) := by decide +kernel
theorem dd_Po_doWithData_139 : decode prog_4_method_13_code 139 = .ok (.getfield 47, 3) := by decide +kernel
theorem dd_Po_doWithData_142 : decode prog_4_method_13_code 142 = .ok (.iload 4, 2) := by decide +kernel
theorem dd_Po_doWithData_144 : decode prog_4_method_13_code 144 = .ok (.ior, 1) := by decide +kernel
theorem dd_Po_doWithData_145 : decode prog_4_method_13_code 145 = .ok (.invokevirtual 102, 3) := by decide +kernel
theorem dd_Po_doWithData_148 : decode prog_4_method_13_code 148 = .ok (.goto (92), 3) := by decide +kernel
theorem dd_Po_doWithData_151 : decode prog_4_method_13_code 151 = .ok (.aload_n 0, 1) := by decide +kernel
theorem dd_Po_doWithData_152 : decode prog_4_method_13_code 152 = .ok (.aload_n 0, 1) := by decide +kernel
theorem dd_Po_doWithData_153 : decode prog_4_method_13_code 153 = .ok (.getfield 47, 3) := by decide +kernel
theorem dd_Po_doWithData_156 : decode prog_4_method_13_code 156 = .ok (.iload 4, 2) := by decide +kernel
theorem dd_Po_doWithData_158 : decode prog_4_method_13_code 158 = .ok (.ixor, 1) := by decide +kernel
theorem dd_Po_doWithData_159 : decode prog_4_method_13_code 159 = .ok (.invokevirtual 102, 3) := by decide +kernel
theorem dd_Po_doWithData_162 : decode prog_4_method_13_code 162 = .ok (.goto (78), 3) := by decide +kernel
theorem dd_Po_doWithData_165 : decode prog_4_method_13_code 165 = .ok (.aload_n 0, 1) := by decide +kernel
theorem dd_Po_doWithData_166 : decode prog_4_method_13_code 166 = .ok (.iload_n 3, 1) := by decide +kernel
theorem dd_Po_doWithData_167 : decode prog_4_method_13_code 167 = .ok (.iconst 2, 1) := by decide +kernel
theorem dd_Po_doWithData_168 : decode prog_4_method_13_code 168 = .ok (.iload 4, 2) := by decide +kernel
theorem dd_Po_doWithData_170 : decode prog_4_method_13_code 170 = .ok (.imul, 1) := by decide +kernel
theorem dd_Po_doWithData_171 : decode prog_4_method_13_code 171 = .ok (.invokevirtual 111, 3) := by decide +kernel
theorem dd_Po_doWithData_174 : decode prog_4_method_13_code 174 = .ok (.goto (66), 3) := by decide +kernel
theorem dd_Po_doWithData_177 : decode prog_4_method_13_code 177 = .ok (.aload_n 0, 1) := by decide +kernel
theorem dd_Po_doWithData_178 : decode prog_4_method_13_code 178 = .ok (.iload_n 3, 1) := by decide +kernel
theorem dd_Po_doWithData_179 : decode prog_4_method_13_code 179 = .ok (.iconst 2, 1) := by decide +kernel
theorem dd_Po_doWithData_180 : decode prog_4_method_13_code 180 = .ok (.iload 4, 2) := by decide +kernel
theorem dd_Po_doWithData_182 : decode prog_4_method_13_code 182 = .ok (.imul, 1) := by decide +kernel
theorem dd_Po_doWithData_183 : decode prog_4_method_13_code 183 = .ok (.aload_n 0, 1) := by decide +kernel
theorem dd_Po_doWithData_184 : decode prog_4_method_13_code 184 = .ok (.getfield 53, 3) := by decide +kernel
theorem dd_Po_doWithData_187 : decode prog_4_method_13_code 187 = .ok (.iadd, 1) := by decide +kernel
theorem dd_Po_doWithData_188 : decode prog_4_method_13_code 188 = .ok (.invokevirtual 111, 3) := by decide +kernel
theorem dd_Po_doWithData_191 : decode prog_4_method_13_code 191 = .ok (.goto (49), 3) := by decide +kernel
theorem dd_Po_doWithData_194 : decode prog_4_method_13_code 194 = .ok (.aload_n 0, 1) := by decide +kernel
theorem dd_Po_doWithData_195 : decode prog_4_method_13_code 195 = .ok (.iload 4, 2) := by decide +kernel
theorem dd_Po_doWithData_197 : decode prog_4_method_13_code 197 = .ok (.putfield 50, 3) := by decide +kernel
theorem dd_Po_doWithData_200 : decode prog_4_method_13_code 200 = .ok (.aload_n 0, 1) := by decide +kernel
theorem dd_Po_doWithData_201 : decode prog_4_method_13_code 201 = .ok (.iload 4, 2) := by decide +kernel
theorem dd_Po_doWithData_203 : decode prog_4_method_13_code 203 = .ok (.ifCond .ne (7), 3) := by decide +kernel
theorem dd_Po_doWithData_206 : decode prog_4_method_13_code 206 = .ok (.iconst 1, 1) := by decide +kernel
theorem dd_Po_doWithData_207 : decode prog_4_method_13_code 207 = .ok (.goto (4), 3) := by decide +kernel
theorem dd_Po_doWithData_210 : decode prog_4_method_13_code 210 = .ok (.iconst 0, 1) := by decide +kernel
theorem dd_Po_doWithData_211 : decode prog_4_method_13_code 211 = .ok (.putfield 56, 3) := by decide +kernel
theorem dd_Po_doWithData_214 : decode prog_4_method_13_code 214 = .ok (.goto (26), 3) := by decide +kernel
theorem dd_Po_doWithData_217 : decode prog_4_method_13_code 217 = .ok (.aload_n 0, 1) := by decide +kernel
theorem dd_Po_doWithData_218 : decode prog_4_method_13_code 218 = .ok (.aload_n 0, 1) := by decide +kernel
theorem dd_Po_doWithData_219 : decode prog_4_method_13_code 219 = .ok (.getfield 47, 3) := by decide +kernel
theorem dd_Po_doWithData_222 : decode prog_4_method_13_code 222 = .ok (.iload 4, 2) := by decide +kernel
theorem dd_Po_doWithData_224 : decode prog_4_method_13_code 224 = .ok (.invokevirtual 114, 3) := by decide +kernel
theorem dd_Po_doWithData_227 : decode prog_4_method_13_code 227 = .ok (.goto (13), 3) := by decide +kernel
theorem dd_Po_doWithData_230 : decode prog_4_method_13_code 230 = .ok (.aload_n 0, 1) := by decide +kernel
theorem dd_Po_doWithData_231 : decode prog_4_method_13_code 231 = .ok (.aload_n 0, 1) := by decide +kernel
theorem dd_Po_doWithData_232 : decode prog_4_method_13_code 232 = .ok (.getfield 50, 3) := by decide +kernel
theorem dd_Po_doWithData_235 : decode prog_4_method_13_code 235 = .ok (.iload 4, 2) := by decide +kernel
theorem dd_Po_doWithData_237 : decode prog_4_method_13_code 237 = .ok (.invokevirtual 114, 3) := by decide +kernel
theorem dd_Po_doWithData_240 : decode prog_4_method_13_code 240 = .ok (.return_, 1) := by decide +kernel
theorem dd_Po_setA_0 : decode prog_4_method_14_code 0 = .ok (.aload_n 0, 1) := by decide +kernel
theorem dd_Po_setA_1 : decode prog_4_method_14_code 1 = .ok (.iload_n 1, 1) := by decide +kernel
theorem dd_Po_setA_2 : decode prog_4_method_14_code 2 = .ok (.putfield 47, 3) := by decide +kernel
theorem dd_Po_setA_5 : decode prog_4_method_14_code 5 = .ok (.aload_n 0, 1) := by decide +kernel
theorem dd_Po_setA_6 : decode prog_4_method_14_code 6 = .ok (.iload_n 1, 1) := by decide +kernel
theorem dd_Po_setA_7 : decode prog_4_method_14_code 7 = .ok (.ifCond .ne (7), 3) := by decide +kernel
theorem dd_Po_setA_10 : decode prog_4_method_14_code 10 = .ok (.iconst 1, 1) := by decide +kernel
theorem dd_Po_setA_11 : decode prog_4_method_14_code 11 = .ok (.goto (4), 3) := by decide +kernel
theorem dd_Po_setA_14 : decode prog_4_method_14_code 14 = .ok (.iconst 0, 1) := by decide +kernel
theorem dd_Po_setA_15 : decode prog_4_method_14_code 15 = .ok (.putfield 56, 3) := by decide +kernel
theorem dd_Po_setA_18 : decode prog_4_method_14_code 18 = .ok (.return_, 1) := by decide +kernel
theorem dd_Po_add_0 : decode prog_4_method_15_code 0 = .ok (.aload_n 0, 1) := by decide +kernel
theorem dd_Po_add_1 : decode prog_4_method_15_code 1 = .ok (.getfield 47, 3) := by decide +kernel
theorem dd_Po_add_4 : decode prog_4_method_15_code 4 = .ok (.iload_n 1, 1) := by decide +kernel
theorem dd_Po_add_5 : decode prog_4_method_15_code 5 = .ok (.iadd, 1) := by decide +kernel
theorem dd_Po_add_6 : decode prog_4_method_15_code 6 = .ok (.aload_n 0, 1) := by decide +kernel
theorem dd_Po_add_7 : decode prog_4_method_15_code 7 = .ok (.getfield 53, 3) := by decide +kernel
theorem dd_Po_add_10 : decode prog_4_method_15_code 10 = .ok (.iadd, 1) := by decide +kernel
theorem dd_Po_add_11 : decode prog_4_method_15_code 11 = .ok (.istore_n 2, 1) := by decide +kernel
theorem dd_Po_add_12 : decode prog_4_method_15_code 12 = .ok (.aload_n 0, 1) := by decide +kernel
theorem dd_Po_add_13 : decode prog_4_method_15_code 13 = .ok (.iload_n 2, 1) := by decide +kernel
theorem dd_Po_add_14 : decode prog_4_method_15_code 14 = .ok (.bipush 8, 2) := by decide +kernel
theorem dd_Po_add_16 : decode prog_4_method_15_code 16 = .ok (.ishr, 1) := by decide +kernel
theorem dd_Po_add_17 : decode prog_4_method_15_code 17 = .ok (.putfield 53, 3) := by decide +kernel
theorem dd_Po_add_20 : decode prog_4_method_15_code 20 = .ok (.aload_n 0, 1) := by decide +kernel
theorem dd_Po_add_21 : decode prog_4_method_15_code 21 = .ok (.iload_n 2, 1) := by decide +kernel
theorem dd_Po_add_22 : decode prog_4_method_15_code 22 = .ok (.sipush 255, 3) := by decide +kernel
theorem dd_Po_add_25 : decode prog_4_method_15_code 25 = .ok (.iand, 1) := by decide +kernel
theorem dd_Po_add_26 : decode prog_4_method_15_code 26 = .ok (.invokevirtual 102, 3) := by decide +kernel
theorem dd_Po_add_29 : decode prog_4_method_15_code 29 = .ok (.return_, 1) := by decide +kernel
theorem dd_Po_shift_0 : decode prog_4_method_16_code 0 = .ok (.aload_n 0, 1) := by decide +kernel
theorem dd_Po_shift_1 : decode prog_4_method_16_code 1 = .ok (.iload_n 2, 1) := by decide +kernel
theorem dd_Po_shift_2 : decode prog_4_method_16_code 2 = .ok (.bipush 8, 2) := by decide +kernel
theorem dd_Po_shift_4 : decode prog_4_method_16_code 4 = .ok (.ishr, 1) := by decide +kernel
theorem dd_Po_shift_5 : decode prog_4_method_16_code 5 = .ok (.putfield 53, 3) := by decide +kernel
theorem dd_Po_shift_8 : decode prog_4_method_16_code 8 = .ok (.aload_n 0, 1) := by decide +kernel
theorem dd_Po_shift_9 : decode prog_4_method_16_code 9 = .ok (.iload_n 1, 1) := by decide +kernel
theorem dd_Po_shift_10 : decode prog_4_method_16_code 10 = .ok (.iload_n 2, 1) := by decide +kernel
theorem dd_Po_shift_11 : decode prog_4_method_16_code 11 = .ok (.sipush 255, 3) := by decide +kernel
theorem dd_Po_shift_14 : decode prog_4_method_16_code 14 = .ok (.iand, 1) := by decide +kernel
theorem dd_Po_shift_15 : decode prog_4_method_16_code 15 = .ok (.invokevirtual 105, 3) := by decide +kernel
theorem dd_Po_shift_18 : decode prog_4_method_16_code 18 = .ok (.aload_n 0, 1) := by decide +kernel
theorem dd_Po_shift_19 : decode prog_4_method_16_code 19 = .ok (.iload_n 2, 1) := by decide +kernel
theorem dd_Po_shift_20 : decode prog_4_method_16_code 20 = .ok (.sipush 255, 3) := by decide +kernel
theorem dd_Po_shift_23 : decode prog_4_method_16_code 23 = .ok (.iand, 1) := by decide +kernel
theorem dd_Po_shift_24 : decode prog_4_method_16_code 24 = .ok (.ifCond .ne (7), 3) := by decide +kernel
theorem dd_Po_shift_27 : decode prog_4_method_16_code 27 = .ok (.iconst 1, 1) := by decide +kernel
theorem dd_Po_shift_28 : decode prog_4_method_16_code 28 = .ok (.goto (4), 3) := by decide +kernel
theorem dd_Po_shift_31 : decode prog_4_method_16_code 31 = .ok (.iconst 0, 1) := by decide +kernel
theorem dd_Po_shift_32 : decode prog_4_method_16_code 32 = .ok (.putfield 56, 3) := by decide +kernel
theorem dd_Po_shift_35 : decode prog_4_method_16_code 35 = .ok (.return_, 1) := by decide +kernel
theorem dd_Po_compare_0 : decode prog_4_method_17_code 0 = .ok (.aload_n 0, 1) := by decide +kernel
theorem dd_Po_compare_1 : decode prog_4_method_17_code 1 = .ok (.iload_n 1, 1) := by decide +kernel
theorem dd_Po_compare_2 : decode prog_4_method_17_code 2 = .ok (.iload_n 2, 1) := by decide +kernel
theorem dd_Po_compare_3 : decode prog_4_method_17_code 3 = .ok (.if_icmp .lt (7), 3) := by decide +kernel
theorem dd_Po_compare_6 : decode prog_4_method_17_code 6 = .ok (.iconst 1, 1) := by decide +kernel
theorem dd_Po_compare_7 : decode prog_4_method_17_code 7 = .ok (.goto (4), 3) := by decide +kernel
theorem dd_Po_compare_10 : decode prog_4_method_17_code 10 = .ok (.iconst 0, 1) := by decide +kernel
theorem dd_Po_compare_11 : decode prog_4_method_17_code 11 = .ok (.putfield 53, 3) := by decide +kernel
theorem dd_Po_compare_14 : decode prog_4_method_17_code 14 = .ok (.aload_n 0, 1) := by decide +kernel
theorem dd_Po_compare_15 : decode prog_4_method_17_code 15 = .ok (.iload_n 1, 1) := by decide +kernel
theorem dd_Po_compare_16 : decode prog_4_method_17_code 16 = .ok (.iload_n 2, 1) := by decide +kernel
theorem dd_Po_compare_17 : decode prog_4_method_17_code 17 = .ok (.if_icmp .ne (7), 3) := by decide +kernel
theorem dd_Po_compare_20 : decode prog_4_method_17_code 20 = .ok (.iconst 1, 1) := by decide +kernel
theorem dd_Po_compare_21 : decode prog_4_method_17_code 21 = .ok (.goto (4), 3) := by decide +kernel
theorem dd_Po_compare_24 : decode prog_4_method_17_code 24 = .ok (.iconst 0, 1) := by decide +kernel
theorem dd_Po_compare_25 : decode prog_4_method_17_code 25 = .ok (.putfield 56, 3) := by decide +kernel
theorem dd_Po_compare_28 : decode prog_4_method_17_code 28 = .ok (.return_, 1) := by decide +kernel
theorem dd_Po_doBranch_0 : decode prog_4_method_18_code 0 = .ok (.aload_n 0, 1) := by decide +kernel
theorem dd_Po_doBranch_1 : decode prog_4_method_18_code 1 = .ok (.invokevirtual 75, 3) := by decide +kernel
theorem dd_Po_doBranch_4 : decode prog_4_method_18_code 4 = .ok (.istore_n 2, 1) := by decide +kernel
theorem dd_Po_doBranch_5 : decode prog_4_method_18_code 5 = .ok (.aload_n 0, 1) := by decide +kernel
theorem dd_Po_doBranch_6 : decode prog_4_method_18_code 6 = .ok (.iload_n 1, 1) := by decide +kernel
theorem dd_Po_doBranch_7 : decode prog_4_method_18_code 7 = .ok (.invokevirtual 117, 3) := by decide +kernel
theorem dd_Po_doBranch_10 : decode prog_4_method_18_code 10 = .ok (.ifCond .eq (28), 3) := by decide +kernel
theorem dd_Po_doBranch_13 : decode prog_4_method_18_code 13 = .ok (.aload_n 0, 1) := by decide +kernel
theorem dd_Po_doBranch_14 : decode prog_4_method_18_code 14 = .ok (.dup, 1) := by decide +kernel
theorem dd_Po_doBranch_15 : decode prog_4_method_18_code 15 = .ok (.getfield 44, 3) := by decide +kernel
theorem dd_Po_doBranch_18 : decode prog_4_method_18_code 18 = .ok (.iload_n 2, 1) := by decide +kernel
theorem dd_Po_doBranch_19 : decode prog_4_method_18_code 19 = .ok (.sipush 128, 3) := by decide +kernel
theorem dd_Po_doBranch_22 : decode prog_4_method_18_code 22 = .ok (.if_icmp .ge (7), 3) := by decide +kernel
theorem dd_Po_doBranch_25 : decode prog_4_method_18_code 25 = .ok (.iload_n 2, 1) := by decide +kernel
theorem dd_Po_doBranch_26 : decode prog_4_method_18_code 26 = .ok (.goto (8), 3) := by decide +kernel
theorem dd_Po_doBranch_29 : decode prog_4_method_18_code 29 = .ok (.iload_n 2, 1) := by decide +kernel
theorem dd_Po_doBranch_30 : decode prog_4_method_18_code 30 = .ok (.sipush 256, 3) := by decide +kernel
theorem dd_Po_doBranch_33 : decode prog_4_method_18_code 33 = .ok (.isub, 1) := by decide +kernel
theorem dd_Po_doBranch_34 : decode prog_4_method_18_code 34 = .ok (.iadd, 1) := by decide +kernel
theorem dd_Po_doBranch_35 : decode prog_4_method_18_code 35 = .ok (.putfield 44, 3) := by decide +kernel
theorem dd_Po_doBranch_38 : decode prog_4_method_18_code 38 = .ok (.return_, 1) := by decide +kernel
theorem dd_Po_branches_0 : decode prog_4_method_19_code 0 = .ok (.iload_n 1, 1) := by decide +kernel
theorem dd_Po_branches_1 : decode prog_4_method_19_code 1 = .ok (.tableswitch (58) (14) (16) #[27, 32, 45], 27) := by decide +kernel
theorem dd_Po_branches_28 : decode prog_4_method_19_code 28 = .ok (.aload_n 0, 1) := by decide +kernel
theorem dd_Po_branches_29 : decode prog_4_method_19_code 29 = .ok (.getfield 56, 3) := by decide +kernel
theorem dd_Po_branches_32 : decode prog_4_method_19_code 32 = .ok (.ireturn, 1) := by decide +kernel
theorem dd_Po_branches_33 : decode prog_4_method_19_code 33 = .ok (.aload_n 0, 1) := by decide +kernel
theorem dd_Po_branches_34 : decode prog_4_method_19_code 34 = .ok (.getfield 56, 3) := by decide +kernel
theorem dd_Po_branches_37 : decode prog_4_method_19_code 37 = .ok (.ifCond .ne (7), 3) := by decide +kernel
theorem dd_Po_branches_40 : decode prog_4_method_19_code 40 = .ok (.iconst 1, 1) := by decide +kernel
theorem dd_Po_branches_41 : decode prog_4_method_19_code 41 = .ok (.goto (4), 3) := by decide +kernel
theorem dd_Po_branches_44 : decode prog_4_method_19_code 44 = .ok (.iconst 0, 1) := by decide +kernel
theorem dd_Po_branches_45 : decode prog_4_method_19_code 45 = .ok (.ireturn, 1) := by decide +kernel
theorem dd_Po_branches_46 : decode prog_4_method_19_code 46 = .ok (.aload_n 0, 1) := by decide +kernel
theorem dd_Po_branches_47 : decode prog_4_method_19_code 47 = .ok (.getfield 53, 3) := by decide +kernel
theorem dd_Po_branches_50 : decode prog_4_method_19_code 50 = .ok (.ifCond .ne (7), 3) := by decide +kernel
theorem dd_Po_branches_53 : decode prog_4_method_19_code 53 = .ok (.iconst 1, 1) := by decide +kernel
theorem dd_Po_branches_54 : decode prog_4_method_19_code 54 = .ok (.goto (4), 3) := by decide +kernel
theorem dd_Po_branches_57 : decode prog_4_method_19_code 57 = .ok (.iconst 0, 1) := by decide +kernel
theorem dd_Po_branches_58 : decode prog_4_method_19_code 58 = .ok (.ireturn, 1) := by decide +kernel
theorem dd_Po_branches_59 : decode prog_4_method_19_code 59 = .ok (.aload_n 0, 1) := by decide +kernel
theorem dd_Po_branches_60 : decode prog_4_method_19_code 60 = .ok (.getfield 53, 3) := by decide +kernel
theorem dd_Po_branches_63 : decode prog_4_method_19_code 63 = .ok (.iconst 1, 1) := by decide +kernel
theorem dd_Po_branches_64 : decode prog_4_method_19_code 64 = .ok (.if_icmp .ne (7), 3) := by decide +kernel
theorem dd_Po_branches_67 : decode prog_4_method_19_code 67 = .ok (.iconst 1, 1) := by decide +kernel
theorem dd_Po_branches_68 : decode prog_4_method_19_code 68 = .ok (.goto (4), 3) := by decide +kernel
theorem dd_Po_branches_71 : decode prog_4_method_19_code 71 = .ok (.iconst 0, 1) := by decide +kernel
theorem dd_Po_branches_72 : decode prog_4_method_19_code 72 = .ok (.ireturn, 1) := by decide +kernel
theorem dd_Po_doJump_0 : decode prog_4_method_20_code 0 = .ok (.aload_n 0, 1) := by decide +kernel
theorem dd_Po_doJump_1 : decode prog_4_method_20_code 1 = .ok (.invokevirtual 75, 3) := by decide +kernel
theorem dd_Po_doJump_4 : decode prog_4_method_20_code 4 = .ok (.istore_n 2, 1) := by decide +kernel
theorem dd_Po_doJump_5 : decode prog_4_method_20_code 5 = .ok (.iload_n 2, 1) := by decide +kernel
theorem dd_Po_doJump_6 : decode prog_4_method_20_code 6 = .ok (.sipush 256, 3) := by decide +kernel
theorem dd_Po_doJump_9 : decode prog_4_method_20_code 9 = .ok (.aload_n 0, 1) := by decide +kernel
theorem dd_Po_doJump_10 : decode prog_4_method_20_code 10 = .ok (.invokevirtual 75, 3) := by decide +kernel
theorem dd_Po_doJump_13 : decode prog_4_method_20_code 13 = .ok (.imul, 1) := by decide +kernel
theorem dd_Po_doJump_14 : decode prog_4_method_20_code 14 = .ok (.iadd, 1) := by decide +kernel
theorem dd_Po_doJump_15 : decode prog_4_method_20_code 15 = .ok (.istore_n 3, 1) := by decide +kernel
theorem dd_Po_doJump_16 : decode prog_4_method_20_code 16 = .ok (.iload_n 1, 1) := by decide +kernel
theorem dd_Po_doJump_17 : decode prog_4_method_20_code 17 = .ok (.bipush 19, 2) := by decide +kernel
theorem dd_Po_doJump_19 : decode prog_4_method_20_code 19 = .ok (.if_icmp .ne (35), 3) := by decide +kernel
theorem dd_Po_doJump_22 : decode prog_4_method_20_code 22 = .ok (.aload_n 0, 1) := by decide +kernel
theorem dd_Po_doJump_23 : decode prog_4_method_20_code 23 = .ok (.getfield 41, 3) := by decide +kernel
theorem dd_Po_doJump_26 : decode prog_4_method_20_code 26 = .ok (.bipush 6, 2) := by decide +kernel
theorem dd_Po_doJump_28 : decode prog_4_method_20_code 28 = .ok (.if_icmp .ge (26), 3) := by decide +kernel
theorem dd_Po_doJump_31 : decode prog_4_method_20_code 31 = .ok (.aload_n 0, 1) := by decide +kernel
theorem dd_Po_doJump_32 : decode prog_4_method_20_code 32 = .ok (.getfield 18, 3) := by decide +kernel
theorem dd_Po_doJump_35 : decode prog_4_method_20_code 35 = .ok (.aload_n 0, 1) := by decide +kernel
theorem dd_Po_doJump_36 : decode prog_4_method_20_code 36 = .ok (.getfield 41, 3) := by decide +kernel
theorem dd_Po_doJump_39 : decode prog_4_method_20_code 39 = .ok (.aload_n 0, 1) := by decide +kernel
theorem dd_Po_doJump_40 : decode prog_4_method_20_code 40 = .ok (.getfield 44, 3) := by decide +kernel
theorem dd_Po_doJump_43 : decode prog_4_method_20_code 43 = .ok (.iastore, 1) := by decide +kernel
theorem dd_Po_doJump_44 : decode prog_4_method_20_code 44 = .ok (.aload_n 0, 1) := by decide +kernel
theorem dd_Po_doJump_45 : decode prog_4_method_20_code 45 = .ok (.dup, 1) := by decide +kernel
theorem dd_Po_doJump_46 : decode prog_4_method_20_code 46 = .ok (.getfield 41, 3) := by decide +kernel
theorem dd_Po_doJump_49 : decode prog_4_method_20_code 49 = .ok (.iconst 1, 1) := by decide +kernel
theorem dd_Po_doJump_50 : decode prog_4_method_20_code 50 = .ok (.iadd, 1) := by decide +kernel
theorem dd_Po_doJump_51 : decode prog_4_method_20_code 51 = .ok (.putfield 41, 3) := by decide +kernel
theorem dd_Po_doJump_54 : decode prog_4_method_20_code 54 = .ok (.aload_n 0, 1) := by decide +kernel
theorem dd_Po_doJump_55 : decode prog_4_method_20_code 55 = .ok (.iload_n 3, 1) := by decide +kernel
theorem dd_Po_doJump_56 : decode prog_4_method_20_code 56 = .ok (.putfield 44, 3) := by decide +kernel
theorem dd_Po_doJump_59 : decode prog_4_method_20_code 59 = .ok (.return_, 1) := by decide +kernel
theorem dd_Po_doAlone_0 : decode prog_4_method_21_code 0 = .ok (.iload_n 1, 1) := by decide +kernel
theorem dd_Po_doAlone_1 : decode prog_4_method_21_code 1 = .ok (.tableswitch (85) (12) (21) #[55, 63, 85, 85, 85, 85, 85, 85, 71, 78], 55) := by decide +kernel
theorem dd_Po_doAlone_56 : decode prog_4_method_21_code 56 = .ok (.aload_n 0, 1) := by decide +kernel
theorem dd_Po_doAlone_57 : decode prog_4_method_21_code 57 = .ok (.iconst 0, 1) := by decide +kernel
theorem dd_Po_doAlone_58 : decode prog_4_method_21_code 58 = .ok (.putfield 53, 3) := by decide +kernel
theorem dd_Po_doAlone_61 : decode prog_4_method_21_code 61 = .ok (.goto (30), 3) := by decide +kernel
theorem dd_Po_doAlone_64 : decode prog_4_method_21_code 64 = .ok (.aload_n 0, 1) := by decide +kernel
theorem dd_Po_doAlone_65 : decode prog_4_method_21_code 65 = .ok (.iconst 1, 1) := by decide +kernel
theorem dd_Po_doAlone_66 : decode prog_4_method_21_code 66 = .ok (.putfield 53, 3) := by decide +kernel
theorem dd_Po_doAlone_69 : decode prog_4_method_21_code 69 = .ok (.goto (22), 3) := by decide +kernel
theorem dd_Po_doAlone_72 : decode prog_4_method_21_code 72 = .ok (.aload_n 0, 1) := by decide +kernel
theorem dd_Po_doAlone_73 : decode prog_4_method_21_code 73 = .ok (.invokevirtual 121, 3) := by decide +kernel
theorem dd_Po_doAlone_76 : decode prog_4_method_21_code 76 = .ok (.goto (15), 3) := by decide +kernel
theorem dd_Po_doAlone_79 : decode prog_4_method_21_code 79 = .ok (.aload_n 0, 1) := by decide +kernel
theorem dd_Po_doAlone_80 : decode prog_4_method_21_code 80 = .ok (.invokevirtual 124, 3) := by decide +kernel
theorem dd_Po_doAlone_83 : decode prog_4_method_21_code 83 = .ok (.goto (8), 3) := by decide +kernel
theorem dd_Po_doAlone_86 : decode prog_4_method_21_code 86 = .ok (.aload_n 0, 1) := by decide +kernel
theorem dd_Po_doAlone_87 : decode prog_4_method_21_code 87 = .ok (.iconst 2, 1) := by decide +kernel
theorem dd_Po_doAlone_88 : decode prog_4_method_21_code 88 = .ok (.putfield 21, 3) := by decide +kernel
theorem dd_Po_doAlone_91 : decode prog_4_method_21_code 91 = .ok (.return_, 1) := by decide +kernel
theorem dd_Po_doReturn_0 : decode prog_4_method_22_code 0 = .ok (.aload_n 0, 1) := by decide +kernel
theorem dd_Po_doReturn_1 : decode prog_4_method_22_code 1 = .ok (.getfield 41, 3) := by decide +kernel
theorem dd_Po_doReturn_4 : decode prog_4_method_22_code 4 = .ok (.ifCond .ne (11), 3) := by decide +kernel
theorem dd_Po_doReturn_7 : decode prog_4_method_22_code 7 = .ok (.aload_n 0, 1) := by decide +kernel
theorem dd_Po_doReturn_8 : decode prog_4_method_22_code 8 = .ok (.iconst 1, 1) := by decide +kernel
theorem dd_Po_doReturn_9 : decode prog_4_method_22_code 9 = .ok (.putfield 21, 3) := by decide +kernel
theorem dd_Po_doReturn_12 : decode prog_4_method_22_code 12 = .ok (.goto (26), 3) := by decide +kernel
theorem dd_Po_doReturn_15 : decode prog_4_method_22_code 15 = .ok (.aload_n 0, 1) := by decide +kernel
theorem dd_Po_doReturn_16 : decode prog_4_method_22_code 16 = .ok (.dup, 1) := by decide +kernel
theorem dd_Po_doReturn_17 : decode prog_4_method_22_code 17 = .ok (.getfield 41, 3) := by decide +kernel
theorem dd_Po_doReturn_20 : decode prog_4_method_22_code 20 = .ok (.iconst 1, 1) := by decide +kernel
theorem dd_Po_doReturn_21 : decode prog_4_method_22_code 21 = .ok (.isub, 1) := by decide +kernel
theorem dd_Po_doReturn_22 : decode prog_4_method_22_code 22 = .ok (.putfield 41, 3) := by decide +kernel
theorem dd_Po_doReturn_25 : decode prog_4_method_22_code 25 = .ok (.aload_n 0, 1) := by decide +kernel
theorem dd_Po_doReturn_26 : decode prog_4_method_22_code 26 = .ok (.aload_n 0, 1) := by decide +kernel
theorem dd_Po_doReturn_27 : decode prog_4_method_22_code 27 = .ok (.getfield 18, 3) := by decide +kernel
theorem dd_Po_doReturn_30 : decode prog_4_method_22_code 30 = .ok (.aload_n 0, 1) := by decide +kernel
theorem dd_Po_doReturn_31 : decode prog_4_method_22_code 31 = .ok (.getfield 41, 3) := by decide +kernel
theorem dd_Po_doReturn_34 : decode prog_4_method_22_code 34 = .ok (.iaload, 1) := by decide +kernel
theorem dd_Po_doReturn_35 : decode prog_4_method_22_code 35 = .ok (.putfield 44, 3) := by decide +kernel
theorem dd_Po_doReturn_38 : decode prog_4_method_22_code 38 = .ok (.return_, 1) := by decide +kernel
theorem dd_Po_putOut_0 : decode prog_4_method_23_code 0 = .ok (.aload_n 0, 1) := by decide +kernel
theorem dd_Po_putOut_1 : decode prog_4_method_23_code 1 = .ok (.getfield 32, 3) := by decide +kernel
theorem dd_Po_putOut_4 : decode prog_4_method_23_code 4 = .ok (.bipush 100, 2) := by decide +kernel
theorem dd_Po_putOut_6 : decode prog_4_method_23_code 6 = .ok (.if_icmp .ge (16), 3) := by decide +kernel
theorem dd_Po_putOut_9 : decode prog_4_method_23_code 9 = .ok (.aload_n 0, 1) := by decide +kernel
theorem dd_Po_putOut_10 : decode prog_4_method_23_code 10 = .ok (.getfield 15, 3) := by decide +kernel
theorem dd_Po_putOut_13 : decode prog_4_method_23_code 13 = .ok (.aload_n 0, 1) := by decide +kernel
theorem dd_Po_putOut_14 : decode prog_4_method_23_code 14 = .ok (.getfield 32, 3) := by decide +kernel
theorem dd_Po_putOut_17 : decode prog_4_method_23_code 17 = .ok (.aload_n 0, 1) := by decide +kernel
theorem dd_Po_putOut_18 : decode prog_4_method_23_code 18 = .ok (.getfield 47, 3) := by decide +kernel
theorem dd_Po_putOut_21 : decode prog_4_method_23_code 21 = .ok (.iastore, 1) := by decide +kernel
theorem dd_Po_putOut_22 : decode prog_4_method_23_code 22 = .ok (.aload_n 0, 1) := by decide +kernel
theorem dd_Po_putOut_23 : decode prog_4_method_23_code 23 = .ok (.dup, 1) := by decide +kernel
theorem dd_Po_putOut_24 : decode prog_4_method_23_code 24 = .ok (.getfield 32, 3) := by decide +kernel
theorem dd_Po_putOut_27 : decode prog_4_method_23_code 27 = .ok (.iconst 1, 1) := by decide +kernel
theorem dd_Po_putOut_28 : decode prog_4_method_23_code 28 = .ok (.iadd, 1) := by decide +kernel
theorem dd_Po_putOut_29 : decode prog_4_method_23_code 29 = .ok (.putfield 32, 3) := by decide +kernel
theorem dd_Po_putOut_32 : decode prog_4_method_23_code 32 = .ok (.return_, 1) := by decide +kernel
