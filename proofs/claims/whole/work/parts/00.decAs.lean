theorem dd_As_assemble_0 : decode prog_2_method_2_code 0 = .ok (.aload_n 0, 1) := by decide +kernel
theorem dd_As_assemble_1 : decode prog_2_method_2_code 1 = .ok (.invokevirtual 39, 3) := by decide +kernel
theorem dd_As_assemble_4 : decode prog_2_method_2_code 4 = .ok (.aload_n 0, 1) := by decide +kernel
theorem dd_As_assemble_5 : decode prog_2_method_2_code 5 = .ok (.iconst 0, 1) := by decide +kernel
theorem dd_As_assemble_6 : decode prog_2_method_2_code 6 = .ok (.putfield 42, 3) := by decide +kernel
theorem dd_As_assemble_9 : decode prog_2_method_2_code 9 = .ok (.iconst 1, 1) := by decide +kernel
theorem dd_As_assemble_10 : decode prog_2_method_2_code 10 = .ok (.istore_n 1, 1) := by decide +kernel
theorem dd_As_assemble_11 : decode prog_2_method_2_code 11 = .ok (.iconst 0, 1) := by decide +kernel
theorem dd_As_assemble_12 : decode prog_2_method_2_code 12 = .ok (.istore_n 2, 1) := by decide +kernel
theorem dd_As_assemble_13 : decode prog_2_method_2_code 13 = .ok (.iload_n 2, 1) := by decide +kernel
theorem dd_As_assemble_14 : decode prog_2_method_2_code 14 = .ok (.bipush 60, 2) := by decide +kernel
theorem dd_As_assemble_16 : decode prog_2_method_2_code 16 = .ok (.if_icmp .gt (22), 3) := by decide +kernel
theorem dd_As_assemble_19 : decode prog_2_method_2_code 19 = .ok (.iload_n 1, 1) := by decide +kernel
theorem dd_As_assemble_20 : decode prog_2_method_2_code 20 = .ok (.ifCond .eq (18), 3) := by decide +kernel
theorem dd_As_assemble_23 : decode prog_2_method_2_code 23 = .ok (.aload_n 0, 1) := by decide +kernel
theorem dd_As_assemble_24 : decode prog_2_method_2_code 24 = .ok (.invokevirtual 46, 3) := by decide +kernel
theorem dd_As_assemble_27 : decode prog_2_method_2_code 27 = .ok (.aload_n 0, 1) := by decide +kernel
theorem dd_As_assemble_28 : decode prog_2_method_2_code 28 = .ok (.invokevirtual 49, 3) := by decide +kernel
theorem dd_As_assemble_31 : decode prog_2_method_2_code 31 = .ok (.istore_n 1, 1) := by decide +kernel
theorem dd_As_assemble_32 : decode prog_2_method_2_code 32 = .ok (.iinc 2 1, 3) := by decide +kernel
theorem dd_As_assemble_35 : decode prog_2_method_2_code 35 = .ok (.goto (-22), 3) := by decide +kernel
theorem dd_As_assemble_38 : decode prog_2_method_2_code 38 = .ok (.aload_n 0, 1) := by decide +kernel
theorem dd_As_assemble_39 : decode prog_2_method_2_code 39 = .ok (.invokevirtual 46, 3) := by decide +kernel
theorem dd_As_assemble_42 : decode prog_2_method_2_code 42 = .ok (.aload_n 0, 1) := by decide +kernel
theorem dd_As_assemble_43 : decode prog_2_method_2_code 43 = .ok (.invokevirtual 53, 3) := by decide +kernel
theorem dd_As_assemble_46 : decode prog_2_method_2_code 46 = .ok (.return_, 1) := by decide +kernel
theorem dd_As_markTargets_0 : decode prog_2_method_3_code 0 = .ok (.iconst 0, 1) := by decide +kernel
theorem dd_As_markTargets_1 : decode prog_2_method_3_code 1 = .ok (.istore_n 1, 1) := by decide +kernel
theorem dd_As_markTargets_2 : decode prog_2_method_3_code 2 = .ok (.iload_n 1, 1) := by decide +kernel
theorem dd_As_markTargets_3 : decode prog_2_method_3_code 3 = .ok (.bipush 60, 2) := by decide +kernel
theorem dd_As_markTargets_5 : decode prog_2_method_3_code 5 = .ok (.if_icmp .ge (23), 3) := by decide +kernel
theorem dd_As_markTargets_8 : decode prog_2_method_3_code 8 = .ok (.aload_n 0, 1) := by decide +kernel
theorem dd_As_markTargets_9 : decode prog_2_method_3_code 9 = .ok (.getfield 24, 3) := by decide +kernel
theorem dd_As_markTargets_12 : decode prog_2_method_3_code 12 = .ok (.iload_n 1, 1) := by decide +kernel
theorem dd_As_markTargets_13 : decode prog_2_method_3_code 13 = .ok (.iconst 0, 1) := by decide +kernel
theorem dd_As_markTargets_14 : decode prog_2_method_3_code 14 = .ok (.bastore, 1) := by decide +kernel
theorem dd_As_markTargets_15 : decode prog_2_method_3_code 15 = .ok (.aload_n 0, 1) := by decide +kernel
theorem dd_As_markTargets_16 : decode prog_2_method_3_code 16 = .ok (.getfield 28, 3) := by decide +kernel
theorem dd_As_markTargets_19 : decode prog_2_method_3_code 19 = .ok (.iload_n 1, 1) := by decide +kernel
theorem dd_As_markTargets_20 : decode prog_2_method_3_code 20 = .ok (.iconst 0, 1) := by decide +kernel
theorem dd_As_markTargets_21 : decode prog_2_method_3_code 21 = .ok (.bastore, 1) := by decide +kernel
theorem dd_As_markTargets_22 : decode prog_2_method_3_code 22 = .ok (.iinc 1 1, 3) := by decide +kernel
theorem dd_As_markTargets_25 : decode prog_2_method_3_code 25 = .ok (.goto (-23), 3) := by decide +kernel
theorem dd_As_markTargets_28 : decode prog_2_method_3_code 28 = .ok (.iconst 0, 1) := by decide +kernel
theorem dd_As_markTargets_29 : decode prog_2_method_3_code 29 = .ok (.istore_n 1, 1) := by decide +kernel
theorem dd_As_markTargets_30 : decode prog_2_method_3_code 30 = .ok (.iload_n 1, 1) := by decide +kernel
theorem dd_As_markTargets_31 : decode prog_2_method_3_code 31 = .ok (.aload_n 0, 1) := by decide +kernel
theorem dd_As_markTargets_32 : decode prog_2_method_3_code 32 = .ok (.getfield 31, 3) := by decide +kernel
theorem dd_As_markTargets_35 : decode prog_2_method_3_code 35 = .ok (.getfield 56, 3) := by decide +kernel
theorem dd_As_markTargets_38 : decode prog_2_method_3_code 38 = .ok (.if_icmp .ge (34), 3) := by decide +kernel
theorem dd_As_markTargets_41 : decode prog_2_method_3_code 41 = .ok (.aload_n 0, 1) := by decide +kernel
theorem dd_As_markTargets_42 : decode prog_2_method_3_code 42 = .ok (.getfield 31, 3) := by decide +kernel
theorem dd_As_markTargets_45 : decode prog_2_method_3_code 45 = .ok (.iload_n 1, 1) := by decide +kernel
theorem dd_As_markTargets_46 : decode prog_2_method_3_code 46 = .ok (.invokevirtual 61, 3) := by decide +kernel
theorem dd_As_markTargets_49 : decode prog_2_method_3_code 49 = .ok (.ifCond .eq (17), 3) := by decide +kernel
theorem dd_As_markTargets_52 : decode prog_2_method_3_code 52 = .ok (.aload_n 0, 1) := by decide +kernel
theorem dd_As_markTargets_53 : decode prog_2_method_3_code 53 = .ok (.getfield 24, 3) := by decide +kernel
theorem dd_As_markTargets_56 : decode prog_2_method_3_code 56 = .ok (.aload_n 0, 1) := by decide +kernel
theorem dd_As_markTargets_57 : decode prog_2_method_3_code 57 = .ok (.getfield 31, 3) := by decide +kernel
theorem dd_As_markTargets_60 : decode prog_2_method_3_code 60 = .ok (.iload_n 1, 1) := by decide +kernel
theorem dd_As_markTargets_61 : decode prog_2_method_3_code 61 = .ok (.invokevirtual 65, 3) := by decide +kernel
theorem dd_As_markTargets_64 : decode prog_2_method_3_code 64 = .ok (.iconst 1, 1) := by decide +kernel
theorem dd_As_markTargets_65 : decode prog_2_method_3_code 65 = .ok (.bastore, 1) := by decide +kernel
theorem dd_As_markTargets_66 : decode prog_2_method_3_code 66 = .ok (.iinc 1 1, 3) := by decide +kernel
theorem dd_As_markTargets_69 : decode prog_2_method_3_code 69 = .ok (.goto (-39), 3) := by decide +kernel
theorem dd_As_markTargets_72 : decode prog_2_method_3_code 72 = .ok (.return_, 1) := by decide +kernel
theorem dd_As_lengthenBranches_0 : decode prog_2_method_4_code 0 = .ok (.aload_n 0, 1) := by decide +kernel
theorem dd_As_lengthenBranches_1 : decode prog_2_method_4_code 1 = .ok (.getfield 42, 3) := by decide +kernel
theorem dd_As_lengthenBranches_4 : decode prog_2_method_4_code 4 = .ok (.istore_n 1, 1) := by decide +kernel
theorem dd_As_lengthenBranches_5 : decode prog_2_method_4_code 5 = .ok (.iconst 0, 1) := by decide +kernel
theorem dd_As_lengthenBranches_6 : decode prog_2_method_4_code 6 = .ok (.istore_n 2, 1) := by decide +kernel
theorem dd_As_lengthenBranches_7 : decode prog_2_method_4_code 7 = .ok (.iload_n 2, 1) := by decide +kernel
theorem dd_As_lengthenBranches_8 : decode prog_2_method_4_code 8 = .ok (.aload_n 0, 1) := by decide +kernel
theorem dd_As_lengthenBranches_9 : decode prog_2_method_4_code 9 = .ok (.getfield 31, 3) := by decide +kernel
theorem dd_As_lengthenBranches_12 : decode prog_2_method_4_code 12 = .ok (.getfield 56, 3) := by decide +kernel
theorem dd_As_lengthenBranches_15 : decode prog_2_method_4_code 15 = .ok (.if_icmp .ge (81), 3) := by decide +kernel
theorem dd_As_lengthenBranches_18 : decode prog_2_method_4_code 18 = .ok (.aload_n 0, 1) := by decide +kernel
theorem dd_As_lengthenBranches_19 : decode prog_2_method_4_code 19 = .ok (.getfield 31, 3) := by decide +kernel
theorem dd_As_lengthenBranches_22 : decode prog_2_method_4_code 22 = .ok (.getfield 69, 3) := by decide +kernel
theorem dd_As_lengthenBranches_25 : decode prog_2_method_4_code 25 = .ok (.iload_n 2, 1) := by decide +kernel
theorem dd_As_lengthenBranches_26 : decode prog_2_method_4_code 26 = .ok (.iaload, 1) := by decide +kernel
theorem dd_As_lengthenBranches_27 : decode prog_2_method_4_code 27 = .ok (.bipush 11, 2) := by decide +kernel
theorem dd_As_lengthenBranches_29 : decode prog_2_method_4_code 29 = .ok (.if_icmp .eq (17), 3) := by decide +kernel
theorem dd_As_lengthenBranches_32 : decode prog_2_method_4_code 32 = .ok (.aload_n 0, 1) := by decide +kernel
theorem dd_As_lengthenBranches_33 : decode prog_2_method_4_code 33 = .ok (.getfield 31, 3) := by decide +kernel
theorem dd_As_lengthenBranches_36 : decode prog_2_method_4_code 36 = .ok (.getfield 69, 3) := by decide +kernel
theorem dd_As_lengthenBranches_39 : decode prog_2_method_4_code 39 = .ok (.iload_n 2, 1) := by decide +kernel
theorem dd_As_lengthenBranches_40 : decode prog_2_method_4_code 40 = .ok (.iaload, 1) := by decide +kernel
theorem dd_As_lengthenBranches_41 : decode prog_2_method_4_code 41 = .ok (.bipush 12, 2) := by decide +kernel
theorem dd_As_lengthenBranches_43 : decode prog_2_method_4_code 43 = .ok (.if_icmp .ne (7), 3) := by decide +kernel
theorem dd_As_lengthenBranches_46 : decode prog_2_method_4_code 46 = .ok (.iconst 1, 1) := by decide +kernel
theorem dd_As_lengthenBranches_47 : decode prog_2_method_4_code 47 = .ok (.goto (4), 3) := by decide +kernel
theorem dd_As_lengthenBranches_50 : decode prog_2_method_4_code 50 = .ok (.iconst 0, 1) := by decide +kernel
theorem dd_As_lengthenBranches_51 : decode prog_2_method_4_code 51 = .ok (.istore_n 3, 1) := by decide +kernel
theorem dd_As_lengthenBranches_52 : decode prog_2_method_4_code 52 = .ok (.iload_n 3, 1) := by decide +kernel
theorem dd_As_lengthenBranches_53 : decode prog_2_method_4_code 53 = .ok (.ifCond .eq (37), 3) := by decide +kernel
theorem dd_As_lengthenBranches_56 : decode prog_2_method_4_code 56 = .ok (.aload_n 0, 1) := by decide +kernel
theorem dd_As_lengthenBranches_57 : decode prog_2_method_4_code 57 = .ok (.getfield 28, 3) := by decide +kernel
theorem dd_As_lengthenBranches_60 : decode prog_2_method_4_code 60 = .ok (.iload_n 2, 1) := by decide +kernel
theorem dd_As_lengthenBranches_61 : decode prog_2_method_4_code 61 = .ok (.baload, 1) := by decide +kernel
theorem dd_As_lengthenBranches_62 : decode prog_2_method_4_code 62 = .ok (.ifCond .ne (28), 3) := by decide +kernel
theorem dd_As_lengthenBranches_65 : decode prog_2_method_4_code 65 = .ok (.aload_n 0, 1) := by decide +kernel
theorem dd_As_lengthenBranches_66 : decode prog_2_method_4_code 66 = .ok (.iload_n 2, 1) := by decide +kernel
theorem dd_As_lengthenBranches_67 : decode prog_2_method_4_code 67 = .ok (.invokevirtual 72, 3) := by decide +kernel
theorem dd_As_lengthenBranches_70 : decode prog_2_method_4_code 70 = .ok (.ifCond .ne (20), 3) := by decide +kernel
theorem dd_As_lengthenBranches_73 : decode prog_2_method_4_code 73 = .ok (.aload_n 0, 1) := by decide +kernel
theorem dd_As_lengthenBranches_74 : decode prog_2_method_4_code 74 = .ok (.getfield 28, 3) := by decide +kernel
theorem dd_As_lengthenBranches_77 : decode prog_2_method_4_code 77 = .ok (.iload_n 2, 1) := by decide +kernel
theorem dd_As_lengthenBranches_78 : decode prog_2_method_4_code 78 = .ok (.iconst 1, 1) := by decide +kernel
theorem dd_As_lengthenBranches_79 : decode prog_2_method_4_code 79 = .ok (.bastore, 1) := by decide +kernel
theorem dd_As_lengthenBranches_80 : decode prog_2_method_4_code 80 = .ok (.aload_n 0, 1) := by decide +kernel
theorem dd_As_lengthenBranches_81 : decode prog_2_method_4_code 81 = .ok (.dup, 1) := by decide +kernel
theorem dd_As_lengthenBranches_82 : decode prog_2_method_4_code 82 = .ok (.getfield 42, 3) := by decide +kernel
theorem dd_As_lengthenBranches_85 : decode prog_2_method_4_code 85 = .ok (.iconst 1, 1) := by decide +kernel
theorem dd_As_lengthenBranches_86 : decode prog_2_method_4_code 86 = .ok (.iadd, 1) := by decide +kernel
theorem dd_As_lengthenBranches_87 : decode prog_2_method_4_code 87 = .ok (.putfield 42, 3) := by decide +kernel
theorem dd_As_lengthenBranches_90 : decode prog_2_method_4_code 90 = .ok (.iinc 2 1, 3) := by decide +kernel
theorem dd_As_lengthenBranches_93 : decode prog_2_method_4_code 93 = .ok (.goto (-86), 3) := by decide +kernel
theorem dd_As_lengthenBranches_96 : decode prog_2_method_4_code 96 = .ok (.aload_n 0, 1) := by decide +kernel
theorem dd_As_lengthenBranches_97 : decode prog_2_method_4_code 97 = .ok (.getfield 42, 3) := by decide +kernel
theorem dd_As_lengthenBranches_100 : decode prog_2_method_4_code 100 = .ok (.iload_n 1, 1) := by decide +kernel
theorem dd_As_lengthenBranches_101 : decode prog_2_method_4_code 101 = .ok (.if_icmp .le (7), 3) := by decide +kernel
theorem dd_As_lengthenBranches_104 : decode prog_2_method_4_code 104 = .ok (.iconst 1, 1) := by decide +kernel
theorem dd_As_lengthenBranches_105 : decode prog_2_method_4_code 105 = .ok (.goto (4), 3) := by decide +kernel
theorem dd_As_lengthenBranches_108 : decode prog_2_method_4_code 108 = .ok (.iconst 0, 1) := by decide +kernel
theorem dd_As_lengthenBranches_109 : decode prog_2_method_4_code 109 = .ok (.ireturn, 1) := by decide +kernel
theorem dd_As_reachesGoal_0 : decode prog_2_method_5_code 0 = .ok (.aload_n 0, 1) := by decide +kernel
theorem dd_As_reachesGoal_1 : decode prog_2_method_5_code 1 = .ok (.getfield 21, 3) := by decide +kernel
theorem dd_As_reachesGoal_4 : decode prog_2_method_5_code 4 = .ok (.iload_n 1, 1) := by decide +kernel
theorem dd_As_reachesGoal_5 : decode prog_2_method_5_code 5 = .ok (.iaload, 1) := by decide +kernel
theorem dd_As_reachesGoal_6 : decode prog_2_method_5_code 6 = .ok (.iconst 2, 1) := by decide +kernel
theorem dd_As_reachesGoal_7 : decode prog_2_method_5_code 7 = .ok (.iadd, 1) := by decide +kernel
theorem dd_As_reachesGoal_8 : decode prog_2_method_5_code 8 = .ok (.istore_n 2, 1) := by decide +kernel
theorem dd_As_reachesGoal_9 : decode prog_2_method_5_code 9 = .ok (.aload_n 0, 1) := by decide +kernel
theorem dd_As_reachesGoal_10 : decode prog_2_method_5_code 10 = .ok (.getfield 18, 3) := by decide +kernel
theorem dd_As_reachesGoal_13 : decode prog_2_method_5_code 13 = .ok (.aload_n 0, 1) := by decide +kernel
theorem dd_As_reachesGoal_14 : decode prog_2_method_5_code 14 = .ok (.getfield 31, 3) := by decide +kernel
theorem dd_As_reachesGoal_17 : decode prog_2_method_5_code 17 = .ok (.iload_n 1, 1) := by decide +kernel
theorem dd_As_reachesGoal_18 : decode prog_2_method_5_code 18 = .ok (.invokevirtual 65, 3) := by decide +kernel
theorem dd_As_reachesGoal_21 : decode prog_2_method_5_code 21 = .ok (.iaload, 1) := by decide +kernel
theorem dd_As_reachesGoal_22 : decode prog_2_method_5_code 22 = .ok (.iload_n 2, 1) := by decide +kernel
theorem dd_As_reachesGoal_23 : decode prog_2_method_5_code 23 = .ok (.isub, 1) := by decide +kernel
theorem dd_As_reachesGoal_24 : decode prog_2_method_5_code 24 = .ok (.istore_n 3, 1) := by decide +kernel
theorem dd_As_reachesGoal_25 : decode prog_2_method_5_code 25 = .ok (.iload_n 3, 1) := by decide +kernel
theorem dd_As_reachesGoal_26 : decode prog_2_method_5_code 26 = .ok (.bipush (-128), 2) := by decide +kernel
theorem dd_As_reachesGoal_28 : decode prog_2_method_5_code 28 = .ok (.if_icmp .lt (13), 3) := by decide +kernel
theorem dd_As_reachesGoal_31 : decode prog_2_method_5_code 31 = .ok (.iload_n 3, 1) := by decide +kernel
theorem dd_As_reachesGoal_32 : decode prog_2_method_5_code 32 = .ok (.bipush 127, 2) := by decide +kernel
theorem dd_As_reachesGoal_34 : decode prog_2_method_5_code 34 = .ok (.if_icmp .gt (7), 3) := by decide +kernel
theorem dd_As_reachesGoal_37 : decode prog_2_method_5_code 37 = .ok (.iconst 1, 1) := by decide +kernel
theorem dd_As_reachesGoal_38 : decode prog_2_method_5_code 38 = .ok (.goto (4), 3) := by decide +kernel
theorem dd_As_reachesGoal_41 : decode prog_2_method_5_code 41 = .ok (.iconst 0, 1) := by decide +kernel
theorem dd_As_reachesGoal_42 : decode prog_2_method_5_code 42 = .ok (.ireturn, 1) := by decide +kernel
theorem dd_As_markLabels_0 : decode prog_2_method_6_code 0 = .ok (.aload_n 0, 1) := by decide +kernel
theorem dd_As_markLabels_1 : decode prog_2_method_6_code 1 = .ok (.getfield 15, 3) := by decide +kernel
theorem dd_As_markLabels_4 : decode prog_2_method_6_code 4 = .ok (.iconst (-1), 1) := by decide +kernel
theorem dd_As_markLabels_5 : decode prog_2_method_6_code 5 = .ok (.invokestatic 75, 3) := by decide +kernel
theorem dd_As_markLabels_8 : decode prog_2_method_6_code 8 = .ok (.iconst 0, 1) := by decide +kernel
theorem dd_As_markLabels_9 : decode prog_2_method_6_code 9 = .ok (.istore_n 1, 1) := by decide +kernel
theorem dd_As_markLabels_10 : decode prog_2_method_6_code 10 = .ok (.iload_n 1, 1) := by decide +kernel
theorem dd_As_markLabels_11 : decode prog_2_method_6_code 11 = .ok (.aload_n 0, 1) := by decide +kernel
theorem dd_As_markLabels_12 : decode prog_2_method_6_code 12 = .ok (.getfield 31, 3) := by decide +kernel
theorem dd_As_markLabels_15 : decode prog_2_method_6_code 15 = .ok (.getfield 56, 3) := by decide +kernel
theorem dd_As_markLabels_18 : decode prog_2_method_6_code 18 = .ok (.if_icmp .ge (58), 3) := by decide +kernel
theorem dd_As_markLabels_21 : decode prog_2_method_6_code 21 = .ok (.aload_n 0, 1) := by decide +kernel
theorem dd_As_markLabels_22 : decode prog_2_method_6_code 22 = .ok (.getfield 31, 3) := by decide +kernel
theorem dd_As_markLabels_25 : decode prog_2_method_6_code 25 = .ok (.getfield 81, 3) := by decide +kernel
theorem dd_As_markLabels_28 : decode prog_2_method_6_code 28 = .ok (.iload_n 1, 1) := by decide +kernel
theorem dd_As_markLabels_29 : decode prog_2_method_6_code 29 = .ok (.iaload, 1) := by decide +kernel
theorem dd_As_markLabels_30 : decode prog_2_method_6_code 30 = .ok (.istore_n 2, 1) := by decide +kernel
theorem dd_As_markLabels_31 : decode prog_2_method_6_code 31 = .ok (.aload_n 0, 1) := by decide +kernel
theorem dd_As_markLabels_32 : decode prog_2_method_6_code 32 = .ok (.getfield 18, 3) := by decide +kernel
theorem dd_As_markLabels_35 : decode prog_2_method_6_code 35 = .ok (.iload_n 1, 1) := by decide +kernel
theorem dd_As_markLabels_36 : decode prog_2_method_6_code 36 = .ok (.iaload, 1) := by decide +kernel
theorem dd_As_markLabels_37 : decode prog_2_method_6_code 37 = .ok (.sipush 500, 3) := by decide +kernel
theorem dd_As_markLabels_40 : decode prog_2_method_6_code 40 = .ok (.if_icmp .ge (30), 3) := by decide +kernel
theorem dd_As_markLabels_43 : decode prog_2_method_6_code 43 = .ok (.aload_n 0, 1) := by decide +kernel
theorem dd_As_markLabels_44 : decode prog_2_method_6_code 44 = .ok (.getfield 15, 3) := by decide +kernel
theorem dd_As_markLabels_47 : decode prog_2_method_6_code 47 = .ok (.aload_n 0, 1) := by decide +kernel
theorem dd_As_markLabels_48 : decode prog_2_method_6_code 48 = .ok (.getfield 18, 3) := by decide +kernel
theorem dd_As_markLabels_51 : decode prog_2_method_6_code 51 = .ok (.iload_n 1, 1) := by decide +kernel
theorem dd_As_markLabels_52 : decode prog_2_method_6_code 52 = .ok (.iaload, 1) := by decide +kernel
theorem dd_As_markLabels_53 : decode prog_2_method_6_code 53 = .ok (.bipush 24, 2) := by decide +kernel
theorem dd_As_markLabels_55 : decode prog_2_method_6_code 55 = .ok (.iload_n 2, 1) := by decide +kernel
theorem dd_As_markLabels_56 : decode prog_2_method_6_code 56 = .ok (.imul, 1) := by decide +kernel
theorem dd_As_markLabels_57 : decode prog_2_method_6_code 57 = .ok (.iload_n 1, 1) := by decide +kernel
theorem dd_As_markLabels_58 : decode prog_2_method_6_code 58 = .ok (.iadd, 1) := by decide +kernel
theorem dd_As_markLabels_59 : decode prog_2_method_6_code 59 = .ok (.aload_n 0, 1) := by decide +kernel
theorem dd_As_markLabels_60 : decode prog_2_method_6_code 60 = .ok (.getfield 31, 3) := by decide +kernel
theorem dd_As_markLabels_63 : decode prog_2_method_6_code 63 = .ok (.getfield 84, 3) := by decide +kernel
theorem dd_As_markLabels_66 : decode prog_2_method_6_code 66 = .ok (.iload_n 2, 1) := by decide +kernel
theorem dd_As_markLabels_67 : decode prog_2_method_6_code 67 = .ok (.iaload, 1) := by decide +kernel
theorem dd_As_markLabels_68 : decode prog_2_method_6_code 68 = .ok (.isub, 1) := by decide +kernel
theorem dd_As_markLabels_69 : decode prog_2_method_6_code 69 = .ok (.iastore, 1) := by decide +kernel
theorem dd_As_markLabels_70 : decode prog_2_method_6_code 70 = .ok (.iinc 1 1, 3) := by decide +kernel
theorem dd_As_markLabels_73 : decode prog_2_method_6_code 73 = .ok (.goto (-63), 3) := by decide +kernel
theorem dd_As_markLabels_76 : decode prog_2_method_6_code 76 = .ok (.return_, 1) := by decide +kernel
theorem dd_As_emitProgram_0 : decode prog_2_method_7_code 0 = .ok (.aload_n 0, 1) := by decide +kernel
theorem dd_As_emitProgram_1 : decode prog_2_method_7_code 1 = .ok (.iconst 0, 1) := by decide +kernel
theorem dd_As_emitProgram_2 : decode prog_2_method_7_code 2 = .ok (.putfield 87, 3) := by decide +kernel
theorem dd_As_emitProgram_5 : decode prog_2_method_7_code 5 = .ok (.iconst 0, 1) := by decide +kernel
theorem dd_As_emitProgram_6 : decode prog_2_method_7_code 6 = .ok (.istore_n 1, 1) := by decide +kernel
theorem dd_As_emitProgram_7 : decode prog_2_method_7_code 7 = .ok (.iload_n 1, 1) := by decide +kernel
theorem dd_As_emitProgram_8 : decode prog_2_method_7_code 8 = .ok (.aload_n 0, 1) := by decide +kernel
theorem dd_As_emitProgram_9 : decode prog_2_method_7_code 9 = .ok (.getfield 31, 3) := by decide +kernel
theorem dd_As_emitProgram_12 : decode prog_2_method_7_code 12 = .ok (.getfield 56, 3) := by decide +kernel
theorem dd_As_emitProgram_15 : decode prog_2_method_7_code 15 = .ok (.if_icmp .ge (94), 3) := by decide +kernel
theorem dd_As_emitProgram_18 : decode prog_2_method_7_code 18 = .ok (.aload_n 0, 1) := by decide +kernel
theorem dd_As_emitProgram_19 : decode prog_2_method_7_code 19 = .ok (.aload_n 0, 1) := by decide +kernel
theorem dd_As_emitProgram_20 : decode prog_2_method_7_code 20 = .ok (.getfield 31, 3) := by decide +kernel
theorem dd_As_emitProgram_23 : decode prog_2_method_7_code 23 = .ok (.getfield 81, 3) := by decide +kernel
theorem dd_As_emitProgram_26 : decode prog_2_method_7_code 26 = .ok (.iload_n 1, 1) := by decide +kernel
theorem dd_As_emitProgram_27 : decode prog_2_method_7_code 27 = .ok (.iaload, 1) := by decide +kernel
theorem dd_As_emitProgram_28 : decode prog_2_method_7_code 28 = .ok (.putfield 90, 3) := by decide +kernel
theorem dd_As_emitProgram_31 : decode prog_2_method_7_code 31 = .ok (.iload_n 1, 1) := by decide +kernel
theorem dd_As_emitProgram_32 : decode prog_2_method_7_code 32 = .ok (.aload_n 0, 1) := by decide +kernel
theorem dd_As_emitProgram_33 : decode prog_2_method_7_code 33 = .ok (.getfield 31, 3) := by decide +kernel
theorem dd_As_emitProgram_36 : decode prog_2_method_7_code 36 = .ok (.getfield 84, 3) := by decide +kernel
theorem dd_As_emitProgram_39 : decode prog_2_method_7_code 39 = .ok (.aload_n 0, 1) := by decide +kernel
theorem dd_As_emitProgram_40 : decode prog_2_method_7_code 40 = .ok (.getfield 90, 3) := by decide +kernel
theorem dd_As_emitProgram_43 : decode prog_2_method_7_code 43 = .ok (.iaload, 1) := by decide +kernel
theorem dd_As_emitProgram_44 : decode prog_2_method_7_code 44 = .ok (.if_icmp .eq (12), 3) := by decide +kernel
theorem dd_As_emitProgram_47 : decode prog_2_method_7_code 47 = .ok (.aload_n 0, 1) := by decide +kernel
theorem dd_As_emitProgram_48 : decode prog_2_method_7_code 48 = .ok (.getfield 24, 3) := by decide +kernel
theorem dd_As_emitProgram_51 : decode prog_2_method_7_code 51 = .ok (.iload_n 1, 1) := by decide +kernel
theorem dd_As_emitProgram_52 : decode prog_2_method_7_code 52 = .ok (.baload, 1) := by decide +kernel
theorem dd_As_emitProgram_53 : decode prog_2_method_7_code 53 = .ok (.ifCond .eq (8), 3) := by decide +kernel
theorem dd_As_emitProgram_56 : decode prog_2_method_7_code 56 = .ok (.aload_n 0, 1) := by decide +kernel
theorem dd_As_emitProgram_57 : decode prog_2_method_7_code 57 = .ok (.iconst (-1), 1) := by decide +kernel
theorem dd_As_emitProgram_58 : decode prog_2_method_7_code 58 = .ok (.putfield 93, 3) := by decide +kernel
theorem dd_As_emitProgram_61 : decode prog_2_method_7_code 61 = .ok (.aload_n 0, 1) := by decide +kernel
theorem dd_As_emitProgram_62 : decode prog_2_method_7_code 62 = .ok (.getfield 18, 3) := by decide +kernel
theorem dd_As_emitProgram_65 : decode prog_2_method_7_code 65 = .ok (.iload_n 1, 1) := by decide +kernel
theorem dd_As_emitProgram_66 : decode prog_2_method_7_code 66 = .ok (.aload_n 0, 1) := by decide +kernel
theorem dd_As_emitProgram_67 : decode prog_2_method_7_code 67 = .ok (.getfield 87, 3) := by decide +kernel
theorem dd_As_emitProgram_70 : decode prog_2_method_7_code 70 = .ok (.iastore, 1) := by decide +kernel
theorem dd_As_emitProgram_71 : decode prog_2_method_7_code 71 = .ok (.aload_n 0, 1) := by decide +kernel
theorem dd_As_emitProgram_72 : decode prog_2_method_7_code 72 = .ok (.iload_n 1, 1) := by decide +kernel
theorem dd_As_emitProgram_73 : decode prog_2_method_7_code 73 = .ok (.aload_n 0, 1) := by decide +kernel
theorem dd_As_emitProgram_74 : decode prog_2_method_7_code 74 = .ok (.getfield 31, 3) := by decide +kernel
theorem dd_As_emitProgram_77 : decode prog_2_method_7_code 77 = .ok (.getfield 96, 3) := by decide +kernel
theorem dd_As_emitProgram_80 : decode prog_2_method_7_code 80 = .ok (.iload_n 1, 1) := by decide +kernel
theorem dd_As_emitProgram_81 : decode prog_2_method_7_code 81 = .ok (.iaload, 1) := by decide +kernel
theorem dd_As_emitProgram_82 : decode prog_2_method_7_code 82 = .ok (.aload_n 0, 1) := by decide +kernel
theorem dd_As_emitProgram_83 : decode prog_2_method_7_code 83 = .ok (.getfield 31, 3) := by decide +kernel
theorem dd_As_emitProgram_86 : decode prog_2_method_7_code 86 = .ok (.getfield 99, 3) := by decide +kernel
theorem dd_As_emitProgram_89 : decode prog_2_method_7_code 89 = .ok (.iload_n 1, 1) := by decide +kernel
theorem dd_As_emitProgram_90 : decode prog_2_method_7_code 90 = .ok (.iaload, 1) := by decide +kernel
theorem dd_As_emitProgram_91 : decode prog_2_method_7_code 91 = .ok (.aload_n 0, 1) := by decide +kernel
theorem dd_As_emitProgram_92 : decode prog_2_method_7_code 92 = .ok (.getfield 31, 3) := by decide +kernel
theorem dd_As_emitProgram_95 : decode prog_2_method_7_code 95 = .ok (.getfield 102, 3) := by decide +kernel
theorem dd_As_emitProgram_98 : decode prog_2_method_7_code 98 = .ok (.iload_n 1, 1) := by decide +kernel
theorem dd_As_emitProgram_99 : decode prog_2_method_7_code 99 = .ok (.iaload, 1) := by decide +kernel
theorem dd_As_emitProgram_100 : decode prog_2_method_7_code 100 = .ok (.invokevirtual 105, 3) := by decide +kernel
theorem dd_As_emitProgram_103 : decode prog_2_method_7_code 103 = .ok (.iinc 1 1, 3) := by decide +kernel
theorem dd_As_emitProgram_106 : decode prog_2_method_7_code 106 = .ok (.goto (-99), 3) := by decide +kernel
theorem dd_As_emitProgram_109 : decode prog_2_method_7_code 109 = .ok (.return_, 1) := by decide +kernel
theorem dd_As_emitInstruction_0 : decode prog_2_method_8_code 0 = .ok (.aload_n 0, 1) := by decide +kernel
theorem dd_As_emitInstruction_1 : decode prog_2_method_8_code 1 = .ok (.getfield 31, 3) := by decide +kernel
theorem dd_As_emitInstruction_4 : decode prog_2_method_8_code 4 = .ok (.getfield 69, 3) := by decide +kernel
theorem dd_As_emitInstruction_7 : decode prog_2_method_8_code 7 = .ok (.iload_n 1, 1) := by decide +kernel
theorem dd_As_emitInstruction_8 : decode prog_2_method_8_code 8 = .ok (.iaload, 1) := by decide +kernel
theorem dd_As_emitInstruction_9 : decode prog_2_method_8_code 9 = .ok (.tableswitch (278) (0) (14) #[75, 84, 93, 111, 129, 141, 153, 166, 174, 190, 206, 228, 243, 259, 270], 75) := by decide +kernel
theorem dd_As_emitInstruction_84 : decode prog_2_method_8_code 84 = .ok (.aload_n 0, 1) := by decide +kernel
theorem dd_As_emitInstruction_85 : decode prog_2_method_8_code 85 = .ok (.iload_n 2, 1) := by decide +kernel
theorem dd_As_emitInstruction_86 : decode prog_2_method_8_code 86 = .ok (.iload_n 3, 1) := by decide +kernel
theorem dd_As_emitInstruction_87 : decode prog_2_method_8_code 87 = .ok (.invokevirtual 109, 3) := by decide +kernel
theorem dd_As_emitInstruction_90 : decode prog_2_method_8_code 90 = .ok (.goto (202), 3) := by decide +kernel
theorem dd_As_emitInstruction_93 : decode prog_2_method_8_code 93 = .ok (.aload_n 0, 1) := by decide +kernel
theorem dd_As_emitInstruction_94 : decode prog_2_method_8_code 94 = .ok (.iload_n 2, 1) := by decide +kernel
theorem dd_As_emitInstruction_95 : decode prog_2_method_8_code 95 = .ok (.iload_n 3, 1) := by decide +kernel
theorem dd_As_emitInstruction_96 : decode prog_2_method_8_code 96 = .ok (.invokevirtual 113, 3) := by decide +kernel
theorem dd_As_emitInstruction_99 : decode prog_2_method_8_code 99 = .ok (.goto (193), 3) := by decide +kernel
theorem dd_As_emitInstruction_102 : decode prog_2_method_8_code 102 = .ok (.aload_n 0, 1) := by decide +kernel
theorem dd_As_emitInstruction_103 : decode prog_2_method_8_code 103 = .ok (.bipush 12, 2) := by decide +kernel
theorem dd_As_emitInstruction_105 : decode prog_2_method_8_code 105 = .ok (.invokevirtual 116, 3) := by decide +kernel
theorem dd_As_emitInstruction_108 : decode prog_2_method_8_code 108 = .ok (.aload_n 0, 1) := by decide +kernel
theorem dd_As_emitInstruction_109 : decode prog_2_method_8_code 109 = .ok (.iconst 2, 1) := by decide +kernel
theorem dd_As_emitInstruction_110 : decode prog_2_method_8_code 110 = .ok (.iload_n 2, 1) := by decide +kernel
theorem dd_As_emitInstruction_111 : decode prog_2_method_8_code 111 = .ok (.iload_n 3, 1) := by decide +kernel
theorem dd_As_emitInstruction_112 : decode prog_2_method_8_code 112 = .ok (.iload 4, 2) := by decide +kernel
theorem dd_As_emitInstruction_114 : decode prog_2_method_8_code 114 = .ok (.invokevirtual 120, 3) := by decide +kernel
theorem dd_As_emitInstruction_117 : decode prog_2_method_8_code 117 = .ok (.goto (175), 3) := by decide +kernel
theorem dd_As_emitInstruction_120 : decode prog_2_method_8_code 120 = .ok (.aload_n 0, 1) := by decide +kernel
theorem dd_As_emitInstruction_121 : decode prog_2_method_8_code 121 = .ok (.bipush 13, 2) := by decide +kernel
theorem dd_As_emitInstruction_123 : decode prog_2_method_8_code 123 = .ok (.invokevirtual 116, 3) := by decide +kernel
theorem dd_As_emitInstruction_126 : decode prog_2_method_8_code 126 = .ok (.aload_n 0, 1) := by decide +kernel
theorem dd_As_emitInstruction_127 : decode prog_2_method_8_code 127 = .ok (.iconst 3, 1) := by decide +kernel
theorem dd_As_emitInstruction_128 : decode prog_2_method_8_code 128 = .ok (.iload_n 2, 1) := by decide +kernel
theorem dd_As_emitInstruction_129 : decode prog_2_method_8_code 129 = .ok (.iload_n 3, 1) := by decide +kernel
theorem dd_As_emitInstruction_130 : decode prog_2_method_8_code 130 = .ok (.iload 4, 2) := by decide +kernel
theorem dd_As_emitInstruction_132 : decode prog_2_method_8_code 132 = .ok (.invokevirtual 120, 3) := by decide +kernel
theorem dd_As_emitInstruction_135 : decode prog_2_method_8_code 135 = .ok (.goto (157), 3) := by decide +kernel
theorem dd_As_emitInstruction_138 : decode prog_2_method_8_code 138 = .ok (.aload_n 0, 1) := by decide +kernel
theorem dd_As_emitInstruction_139 : decode prog_2_method_8_code 139 = .ok (.iconst 4, 1) := by decide +kernel
theorem dd_As_emitInstruction_140 : decode prog_2_method_8_code 140 = .ok (.iload_n 2, 1) := by decide +kernel
theorem dd_As_emitInstruction_141 : decode prog_2_method_8_code 141 = .ok (.iload_n 3, 1) := by decide +kernel
theorem dd_As_emitInstruction_142 : decode prog_2_method_8_code 142 = .ok (.iload 4, 2) := by decide +kernel
theorem dd_As_emitInstruction_144 : decode prog_2_method_8_code 144 = .ok (.invokevirtual 120, 3) := by decide +kernel
theorem dd_As_emitInstruction_147 : decode prog_2_method_8_code 147 = .ok (.goto (145), 3) := by decide +kernel
theorem dd_As_emitInstruction_150 : decode prog_2_method_8_code 150 = .ok (.aload_n 0, 1) := by decide +kernel
theorem dd_As_emitInstruction_151 : decode prog_2_method_8_code 151 = .ok (.iconst 5, 1) := by decide +kernel
theorem dd_As_emitInstruction_152 : decode prog_2_method_8_code 152 = .ok (.iload_n 2, 1) := by decide +kernel
theorem dd_As_emitInstruction_153 : decode prog_2_method_8_code 153 = .ok (.iload_n 3, 1) := by decide +kernel
theorem dd_As_emitInstruction_154 : decode prog_2_method_8_code 154 = .ok (.iload 4, 2) := by decide +kernel
theorem dd_As_emitInstruction_156 : decode prog_2_method_8_code 156 = .ok (.invokevirtual 120, 3) := by decide +kernel
theorem dd_As_emitInstruction_159 : decode prog_2_method_8_code 159 = .ok (.goto (133), 3) := by decide +kernel
theorem dd_As_emitInstruction_162 : decode prog_2_method_8_code 162 = .ok (.aload_n 0, 1) := by decide +kernel
theorem dd_As_emitInstruction_163 : decode prog_2_method_8_code 163 = .ok (.bipush 6, 2) := by decide +kernel
theorem dd_As_emitInstruction_165 : decode prog_2_method_8_code 165 = .ok (.iload_n 2, 1) := by decide +kernel
theorem dd_As_emitInstruction_166 : decode prog_2_method_8_code 166 = .ok (.iload_n 3, 1) := by decide +kernel
theorem dd_As_emitInstruction_167 : decode prog_2_method_8_code 167 = .ok (.iload 4, 2) := by decide +kernel
theorem dd_As_emitInstruction_169 : decode prog_2_method_8_code 169 = .ok (.invokevirtual 120, 3) := by decide +kernel
theorem dd_As_emitInstruction_172 : decode prog_2_method_8_code 172 = .ok (.goto (120), 3) := by decide +kernel
theorem dd_As_emitInstruction_175 : decode prog_2_method_8_code 175 = .ok (.aload_n 0, 1) := by decide +kernel
theorem dd_As_emitInstruction_176 : decode prog_2_method_8_code 176 = .ok (.iload_n 2, 1) := by decide +kernel
theorem dd_As_emitInstruction_177 : decode prog_2_method_8_code 177 = .ok (.invokevirtual 123, 3) := by decide +kernel
theorem dd_As_emitInstruction_180 : decode prog_2_method_8_code 180 = .ok (.goto (112), 3) := by decide +kernel
theorem dd_As_emitInstruction_183 : decode prog_2_method_8_code 183 = .ok (.aload_n 0, 1) := by decide +kernel
theorem dd_As_emitInstruction_184 : decode prog_2_method_8_code 184 = .ok (.iload_n 3, 1) := by decide +kernel
theorem dd_As_emitInstruction_185 : decode prog_2_method_8_code 185 = .ok (.iload 4, 2) := by decide +kernel
theorem dd_As_emitInstruction_187 : decode prog_2_method_8_code 187 = .ok (.invokevirtual 126, 3) := by decide +kernel
theorem dd_As_emitInstruction_190 : decode prog_2_method_8_code 190 = .ok (.aload_n 0, 1) := by decide +kernel
theorem dd_As_emitInstruction_191 : decode prog_2_method_8_code 191 = .ok (.iload_n 2, 1) := by decide +kernel
theorem dd_As_emitInstruction_192 : decode prog_2_method_8_code 192 = .ok (.iload_n 3, 1) := by decide +kernel
theorem dd_As_emitInstruction_193 : decode prog_2_method_8_code 193 = .ok (.invokevirtual 129, 3) := by decide +kernel
theorem dd_As_emitInstruction_196 : decode prog_2_method_8_code 196 = .ok (.goto (96), 3) := by decide +kernel
theorem dd_As_emitInstruction_199 : decode prog_2_method_8_code 199 = .ok (.aload_n 0, 1) := by decide +kernel
theorem dd_As_emitInstruction_200 : decode prog_2_method_8_code 200 = .ok (.iload_n 2, 1) := by decide +kernel
theorem dd_As_emitInstruction_201 : decode prog_2_method_8_code 201 = .ok (.iload_n 3, 1) := by decide +kernel
theorem dd_As_emitInstruction_202 : decode prog_2_method_8_code 202 = .ok (.invokevirtual 126, 3) := by decide +kernel
theorem dd_As_emitInstruction_205 : decode prog_2_method_8_code 205 = .ok (.aload_n 0, 1) := by decide +kernel
theorem dd_As_emitInstruction_206 : decode prog_2_method_8_code 206 = .ok (.iload_n 2, 1) := by decide +kernel
theorem dd_As_emitInstruction_207 : decode prog_2_method_8_code 207 = .ok (.iload 4, 2) := by decide +kernel
theorem dd_As_emitInstruction_209 : decode prog_2_method_8_code 209 = .ok (.invokevirtual 132, 3) := by decide +kernel
theorem dd_As_emitInstruction_212 : decode prog_2_method_8_code 212 = .ok (.goto (80), 3) := by decide +kernel
theorem dd_As_emitInstruction_215 : decode prog_2_method_8_code 215 = .ok (.aload_n 0, 1) := by decide +kernel
theorem dd_As_emitInstruction_216 : decode prog_2_method_8_code 216 = .ok (.bipush 18, 2) := by decide +kernel
theorem dd_As_emitInstruction_218 : decode prog_2_method_8_code 218 = .ok (.aload_n 0, 1) := by decide +kernel
theorem dd_As_emitInstruction_219 : decode prog_2_method_8_code 219 = .ok (.getfield 18, 3) := by decide +kernel
theorem dd_As_emitInstruction_222 : decode prog_2_method_8_code 222 = .ok (.aload_n 0, 1) := by decide +kernel
theorem dd_As_emitInstruction_223 : decode prog_2_method_8_code 223 = .ok (.getfield 31, 3) := by decide +kernel
theorem dd_As_emitInstruction_226 : decode prog_2_method_8_code 226 = .ok (.iload_n 1, 1) := by decide +kernel
theorem dd_As_emitInstruction_227 : decode prog_2_method_8_code 227 = .ok (.invokevirtual 65, 3) := by decide +kernel
theorem dd_As_emitInstruction_230 : decode prog_2_method_8_code 230 = .ok (.iaload, 1) := by decide +kernel
theorem dd_As_emitInstruction_231 : decode prog_2_method_8_code 231 = .ok (.invokevirtual 135, 3) := by decide +kernel
theorem dd_As_emitInstruction_234 : decode prog_2_method_8_code 234 = .ok (.goto (58), 3) := by decide +kernel
theorem dd_As_emitInstruction_237 : decode prog_2_method_8_code 237 = .ok (.aload_n 0, 1) := by decide +kernel
theorem dd_As_emitInstruction_238 : decode prog_2_method_8_code 238 = .ok (.iload_n 2, 1) := by decide +kernel
theorem dd_As_emitInstruction_239 : decode prog_2_method_8_code 239 = .ok (.invokevirtual 138, 3) := by decide +kernel
theorem dd_As_emitInstruction_242 : decode prog_2_method_8_code 242 = .ok (.aload_n 0, 1) := by decide +kernel
theorem dd_As_emitInstruction_243 : decode prog_2_method_8_code 243 = .ok (.bipush 14, 2) := by decide +kernel
theorem dd_As_emitInstruction_245 : decode prog_2_method_8_code 245 = .ok (.iload_n 1, 1) := by decide +kernel
theorem dd_As_emitInstruction_246 : decode prog_2_method_8_code 246 = .ok (.invokevirtual 141, 3) := by decide +kernel
theorem dd_As_emitInstruction_249 : decode prog_2_method_8_code 249 = .ok (.goto (43), 3) := by decide +kernel
theorem dd_As_emitInstruction_252 : decode prog_2_method_8_code 252 = .ok (.aload_n 0, 1) := by decide +kernel
theorem dd_As_emitInstruction_253 : decode prog_2_method_8_code 253 = .ok (.iload_n 2, 1) := by decide +kernel
theorem dd_As_emitInstruction_254 : decode prog_2_method_8_code 254 = .ok (.iload_n 3, 1) := by decide +kernel
theorem dd_As_emitInstruction_255 : decode prog_2_method_8_code 255 = .ok (.invokevirtual 144, 3) := by decide +kernel
theorem dd_As_emitInstruction_258 : decode prog_2_method_8_code 258 = .ok (.aload_n 0, 1) := by decide +kernel
theorem dd_As_emitInstruction_259 : decode prog_2_method_8_code 259 = .ok (.bipush 16, 2) := by decide +kernel
theorem dd_As_emitInstruction_261 : decode prog_2_method_8_code 261 = .ok (.iload_n 1, 1) := by decide +kernel
theorem dd_As_emitInstruction_262 : decode prog_2_method_8_code 262 = .ok (.invokevirtual 141, 3) := by decide +kernel
theorem dd_As_emitInstruction_265 : decode prog_2_method_8_code 265 = .ok (.goto (27), 3) := by decide +kernel
theorem dd_As_emitInstruction_268 : decode prog_2_method_8_code 268 = .ok (.aload_n 0, 1) := by decide +kernel
theorem dd_As_emitInstruction_269 : decode prog_2_method_8_code 269 = .ok (.iload_n 2, 1) := by decide +kernel
theorem dd_As_emitInstruction_270 : decode prog_2_method_8_code 270 = .ok (.iload_n 3, 1) := by decide +kernel
theorem dd_As_emitInstruction_271 : decode prog_2_method_8_code 271 = .ok (.iload 4, 2) := by decide +kernel
theorem dd_As_emitInstruction_273 : decode prog_2_method_8_code 273 = .ok (.invokevirtual 147, 3) := by decide +kernel
theorem dd_As_emitInstruction_276 : decode prog_2_method_8_code 276 = .ok (.goto (16), 3) := by decide +kernel
theorem dd_As_emitInstruction_279 : decode prog_2_method_8_code 279 = .ok (.aload_n 0, 1) := by decide +kernel
theorem dd_As_emitInstruction_280 : decode prog_2_method_8_code 280 = .ok (.iload_n 2, 1) := by decide +kernel
theorem dd_As_emitInstruction_281 : decode prog_2_method_8_code 281 = .ok (.invokevirtual 151, 3) := by decide +kernel
theorem dd_As_emitInstruction_284 : decode prog_2_method_8_code 284 = .ok (.goto (8), 3) := by decide +kernel
theorem dd_As_emitInstruction_287 : decode prog_2_method_8_code 287 = .ok (.aload_n 0, 1) := by decide +kernel
theorem dd_As_emitInstruction_288 : decode prog_2_method_8_code 288 = .ok (.iload_n 2, 1) := by decide +kernel
theorem dd_As_emitInstruction_289 : decode prog_2_method_8_code 289 = .ok (.invokevirtual 154, 3) := by decide +kernel
theorem dd_As_emitInstruction_292 : decode prog_2_method_8_code 292 = .ok (.return_, 1) := by decide +kernel
theorem dd_As_emitSet_0 : decode prog_2_method_9_code 0 = .ok (.iconst 0, 1) := by decide +kernel
theorem dd_As_emitSet_1 : decode prog_2_method_9_code 1 = .ok (.istore_n 3, 1) := by decide +kernel
theorem dd_As_emitSet_2 : decode prog_2_method_9_code 2 = .ok (.iload_n 3, 1) := by decide +kernel
theorem dd_As_emitSet_3 : decode prog_2_method_9_code 3 = .ok (.aload_n 0, 1) := by decide +kernel
theorem dd_As_emitSet_4 : decode prog_2_method_9_code 4 = .ok (.getfield 31, 3) := by decide +kernel
theorem dd_As_emitSet_7 : decode prog_2_method_9_code 7 = .ok (.aload_n 0, 1) := by decide +kernel
theorem dd_As_emitSet_8 : decode prog_2_method_9_code 8 = .ok (.getfield 90, 3) := by decide +kernel
theorem dd_As_emitSet_11 : decode prog_2_method_9_code 11 = .ok (.iload_n 1, 1) := by decide +kernel
theorem dd_As_emitSet_12 : decode prog_2_method_9_code 12 = .ok (.invokevirtual 157, 3) := by decide +kernel
theorem dd_As_emitSet_15 : decode prog_2_method_9_code 15 = .ok (.if_icmp .ge (39), 3) := by decide +kernel
theorem dd_As_emitSet_18 : decode prog_2_method_9_code 18 = .ok (.aload_n 0, 1) := by decide +kernel
theorem dd_As_emitSet_19 : decode prog_2_method_9_code 19 = .ok (.iconst 0, 1) := by decide +kernel
theorem dd_As_emitSet_20 : decode prog_2_method_9_code 20 = .ok (.sipush 256, 3) := by decide +kernel
theorem dd_As_emitSet_23 : decode prog_2_method_9_code 23 = .ok (.iload_n 2, 1) := by decide +kernel
theorem dd_As_emitSet_24 : decode prog_2_method_9_code 24 = .ok (.bipush 8, 2) := by decide +kernel
theorem dd_As_emitSet_26 : decode prog_2_method_9_code 26 = .ok (.iload_n 3, 1) := by decide +kernel
theorem dd_As_emitSet_27 : decode prog_2_method_9_code 27 = .ok (.imul, 1) := by decide +kernel
theorem dd_As_emitSet_28 : decode prog_2_method_9_code 28 = .ok (.ishr, 1) := by decide +kernel
theorem dd_As_emitSet_29 : decode prog_2_method_9_code 29 = .ok (.sipush 255, 3) := by decide +kernel
theorem dd_As_emitSet_32 : decode prog_2_method_9_code 32 = .ok (.iand, 1) := by decide +kernel
theorem dd_As_emitSet_33 : decode prog_2_method_9_code 33 = .ok (.iadd, 1) := by decide +kernel
theorem dd_As_emitSet_34 : decode prog_2_method_9_code 34 = .ok (.invokevirtual 161, 3) := by decide +kernel
theorem dd_As_emitSet_37 : decode prog_2_method_9_code 37 = .ok (.aload_n 0, 1) := by decide +kernel
theorem dd_As_emitSet_38 : decode prog_2_method_9_code 38 = .ok (.iconst 1, 1) := by decide +kernel
theorem dd_As_emitSet_39 : decode prog_2_method_9_code 39 = .ok (.aload_n 0, 1) := by decide +kernel
theorem dd_As_emitSet_40 : decode prog_2_method_9_code 40 = .ok (.iload_n 1, 1) := by decide +kernel
theorem dd_As_emitSet_41 : decode prog_2_method_9_code 41 = .ok (.iload_n 3, 1) := by decide +kernel
theorem dd_As_emitSet_42 : decode prog_2_method_9_code 42 = .ok (.invokevirtual 164, 3) := by decide +kernel
theorem dd_As_emitSet_45 : decode prog_2_method_9_code 45 = .ok (.invokevirtual 161, 3) := by decide +kernel
theorem dd_As_emitSet_48 : decode prog_2_method_9_code 48 = .ok (.iinc 3 1, 3) := by decide +kernel
theorem dd_As_emitSet_51 : decode prog_2_method_9_code 51 = .ok (.goto (-49), 3) := by decide +kernel
theorem dd_As_emitSet_54 : decode prog_2_method_9_code 54 = .ok (.return_, 1) := by decide +kernel
theorem dd_As_emitMove_0 : decode prog_2_method_10_code 0 = .ok (.iconst 0, 1) := by decide +kernel
theorem dd_As_emitMove_1 : decode prog_2_method_10_code 1 = .ok (.istore_n 3, 1) := by decide +kernel
theorem dd_As_emitMove_2 : decode prog_2_method_10_code 2 = .ok (.iload_n 3, 1) := by decide +kernel
theorem dd_As_emitMove_3 : decode prog_2_method_10_code 3 = .ok (.aload_n 0, 1) := by decide +kernel
theorem dd_As_emitMove_4 : decode prog_2_method_10_code 4 = .ok (.getfield 31, 3) := by decide +kernel
theorem dd_As_emitMove_7 : decode prog_2_method_10_code 7 = .ok (.aload_n 0, 1) := by decide +kernel
theorem dd_As_emitMove_8 : decode prog_2_method_10_code 8 = .ok (.getfield 90, 3) := by decide +kernel
theorem dd_As_emitMove_11 : decode prog_2_method_10_code 11 = .ok (.iload_n 1, 1) := by decide +kernel
theorem dd_As_emitMove_12 : decode prog_2_method_10_code 12 = .ok (.invokevirtual 157, 3) := by decide +kernel
theorem dd_As_emitMove_15 : decode prog_2_method_10_code 15 = .ok (.if_icmp .ge (31), 3) := by decide +kernel
theorem dd_As_emitMove_18 : decode prog_2_method_10_code 18 = .ok (.aload_n 0, 1) := by decide +kernel
theorem dd_As_emitMove_19 : decode prog_2_method_10_code 19 = .ok (.iconst 0, 1) := by decide +kernel
theorem dd_As_emitMove_20 : decode prog_2_method_10_code 20 = .ok (.aload_n 0, 1) := by decide +kernel
theorem dd_As_emitMove_21 : decode prog_2_method_10_code 21 = .ok (.iload_n 2, 1) := by decide +kernel
theorem dd_As_emitMove_22 : decode prog_2_method_10_code 22 = .ok (.iload_n 3, 1) := by decide +kernel
theorem dd_As_emitMove_23 : decode prog_2_method_10_code 23 = .ok (.invokevirtual 164, 3) := by decide +kernel
theorem dd_As_emitMove_26 : decode prog_2_method_10_code 26 = .ok (.invokevirtual 161, 3) := by decide +kernel
theorem dd_As_emitMove_29 : decode prog_2_method_10_code 29 = .ok (.aload_n 0, 1) := by decide +kernel
theorem dd_As_emitMove_30 : decode prog_2_method_10_code 30 = .ok (.iconst 1, 1) := by decide +kernel
theorem dd_As_emitMove_31 : decode prog_2_method_10_code 31 = .ok (.aload_n 0, 1) := by decide +kernel
theorem dd_As_emitMove_32 : decode prog_2_method_10_code 32 = .ok (.iload_n 1, 1) := by decide +kernel
theorem dd_As_emitMove_33 : decode prog_2_method_10_code 33 = .ok (.iload_n 3, 1) := by decide +kernel
theorem dd_As_emitMove_34 : decode prog_2_method_10_code 34 = .ok (.invokevirtual 164, 3) := by decide +kernel
theorem dd_As_emitMove_37 : decode prog_2_method_10_code 37 = .ok (.invokevirtual 161, 3) := by decide +kernel
theorem dd_As_emitMove_40 : decode prog_2_method_10_code 40 = .ok (.iinc 3 1, 3) := by decide +kernel
theorem dd_As_emitMove_43 : decode prog_2_method_10_code 43 = .ok (.goto (-41), 3) := by decide +kernel
theorem dd_As_emitMove_46 : decode prog_2_method_10_code 46 = .ok (.return_, 1) := by decide +kernel
theorem dd_As_emitCombine_0 : decode prog_2_method_11_code 0 = .ok (.iconst 0, 1) := by decide +kernel
theorem dd_As_emitCombine_1 : decode prog_2_method_11_code 1 = .ok (.istore 5, 2) := by decide +kernel
theorem dd_As_emitCombine_3 : decode prog_2_method_11_code 3 = .ok (.iload 5, 2) := by decide +kernel
theorem dd_As_emitCombine_5 : decode prog_2_method_11_code 5 = .ok (.aload_n 0, 1) := by decide +kernel
theorem dd_As_emitCombine_6 : decode prog_2_method_11_code 6 = .ok (.getfield 31, 3) := by decide +kernel
theorem dd_As_emitCombine_9 : decode prog_2_method_11_code 9 = .ok (.aload_n 0, 1) := by decide +kernel
theorem dd_As_emitCombine_10 : decode prog_2_method_11_code 10 = .ok (.getfield 90, 3) := by decide +kernel
theorem dd_As_emitCombine_13 : decode prog_2_method_11_code 13 = .ok (.iload_n 2, 1) := by decide +kernel
theorem dd_As_emitCombine_14 : decode prog_2_method_11_code 14 = .ok (.invokevirtual 157, 3) := by decide +kernel
theorem dd_As_emitCombine_17 : decode prog_2_method_11_code 17 = .ok (.if_icmp .ge (46), 3) := by decide +kernel
theorem dd_As_emitCombine_20 : decode prog_2_method_11_code 20 = .ok (.aload_n 0, 1) := by decide +kernel
theorem dd_As_emitCombine_21 : decode prog_2_method_11_code 21 = .ok (.iconst 0, 1) := by decide +kernel
theorem dd_As_emitCombine_22 : decode prog_2_method_11_code 22 = .ok (.aload_n 0, 1) := by decide +kernel
theorem dd_As_emitCombine_23 : decode prog_2_method_11_code 23 = .ok (.iload_n 3, 1) := by decide +kernel
theorem dd_As_emitCombine_24 : decode prog_2_method_11_code 24 = .ok (.iload 5, 2) := by decide +kernel
theorem dd_As_emitCombine_26 : decode prog_2_method_11_code 26 = .ok (.invokevirtual 164, 3) := by decide +kernel
theorem dd_As_emitCombine_29 : decode prog_2_method_11_code 29 = .ok (.invokevirtual 161, 3) := by decide +kernel
theorem dd_As_emitCombine_32 : decode prog_2_method_11_code 32 = .ok (.aload_n 0, 1) := by decide +kernel
theorem dd_As_emitCombine_33 : decode prog_2_method_11_code 33 = .ok (.iload_n 1, 1) := by decide +kernel
theorem dd_As_emitCombine_34 : decode prog_2_method_11_code 34 = .ok (.aload_n 0, 1) := by decide +kernel
theorem dd_As_emitCombine_35 : decode prog_2_method_11_code 35 = .ok (.iload 4, 2) := by decide +kernel
theorem dd_As_emitCombine_37 : decode prog_2_method_11_code 37 = .ok (.iload 5, 2) := by decide +kernel
theorem dd_As_emitCombine_39 : decode prog_2_method_11_code 39 = .ok (.invokevirtual 164, 3) := by decide +kernel
theorem dd_As_emitCombine_42 : decode prog_2_method_11_code 42 = .ok (.invokevirtual 161, 3) := by decide +kernel
theorem dd_As_emitCombine_45 : decode prog_2_method_11_code 45 = .ok (.aload_n 0, 1) := by decide +kernel
theorem dd_As_emitCombine_46 : decode prog_2_method_11_code 46 = .ok (.iconst 1, 1) := by decide +kernel
theorem dd_As_emitCombine_47 : decode prog_2_method_11_code 47 = .ok (.aload_n 0, 1) := by decide +kernel
theorem dd_As_emitCombine_48 : decode prog_2_method_11_code 48 = .ok (.iload_n 2, 1) := by decide +kernel
theorem dd_As_emitCombine_49 : decode prog_2_method_11_code 49 = .ok (.iload 5, 2) := by decide +kernel
theorem dd_As_emitCombine_51 : decode prog_2_method_11_code 51 = .ok (.invokevirtual 164, 3) := by decide +kernel
theorem dd_As_emitCombine_54 : decode prog_2_method_11_code 54 = .ok (.invokevirtual 161, 3) := by decide +kernel
theorem dd_As_emitCombine_57 : decode prog_2_method_11_code 57 = .ok (.iinc 5 1, 3) := by decide +kernel
theorem dd_As_emitCombine_60 : decode prog_2_method_11_code 60 = .ok (.goto (-57), 3) := by decide +kernel
theorem dd_As_emitCombine_63 : decode prog_2_method_11_code 63 = .ok (.return_, 1) := by decide +kernel
theorem dd_As_emitDouble_0 : decode prog_2_method_12_code 0 = .ok (.aload_n 0, 1) := by decide +kernel
theorem dd_As_emitDouble_1 : decode prog_2_method_12_code 1 = .ok (.bipush 7, 2) := by decide +kernel
theorem dd_As_emitDouble_3 : decode prog_2_method_12_code 3 = .ok (.aload_n 0, 1) := by decide +kernel
theorem dd_As_emitDouble_4 : decode prog_2_method_12_code 4 = .ok (.iload_n 1, 1) := by decide +kernel
theorem dd_As_emitDouble_5 : decode prog_2_method_12_code 5 = .ok (.iconst 0, 1) := by decide +kernel
theorem dd_As_emitDouble_6 : decode prog_2_method_12_code 6 = .ok (.invokevirtual 164, 3) := by decide +kernel
theorem dd_As_emitDouble_9 : decode prog_2_method_12_code 9 = .ok (.invokevirtual 161, 3) := by decide +kernel
theorem dd_As_emitDouble_12 : decode prog_2_method_12_code 12 = .ok (.aload_n 0, 1) := by decide +kernel
theorem dd_As_emitDouble_13 : decode prog_2_method_12_code 13 = .ok (.iload_n 1, 1) := by decide +kernel
theorem dd_As_emitDouble_14 : decode prog_2_method_12_code 14 = .ok (.invokevirtual 167, 3) := by decide +kernel
theorem dd_As_emitDouble_17 : decode prog_2_method_12_code 17 = .ok (.ifCond .eq (15), 3) := by decide +kernel
theorem dd_As_emitDouble_20 : decode prog_2_method_12_code 20 = .ok (.aload_n 0, 1) := by decide +kernel
theorem dd_As_emitDouble_21 : decode prog_2_method_12_code 21 = .ok (.bipush 8, 2) := by decide +kernel
theorem dd_As_emitDouble_23 : decode prog_2_method_12_code 23 = .ok (.aload_n 0, 1) := by decide +kernel
theorem dd_As_emitDouble_24 : decode prog_2_method_12_code 24 = .ok (.iload_n 1, 1) := by decide +kernel
theorem dd_As_emitDouble_25 : decode prog_2_method_12_code 25 = .ok (.iconst 1, 1) := by decide +kernel
theorem dd_As_emitDouble_26 : decode prog_2_method_12_code 26 = .ok (.invokevirtual 164, 3) := by decide +kernel
theorem dd_As_emitDouble_29 : decode prog_2_method_12_code 29 = .ok (.invokevirtual 161, 3) := by decide +kernel
theorem dd_As_emitDouble_32 : decode prog_2_method_12_code 32 = .ok (.return_, 1) := by decide +kernel
theorem dd_As_emitLoad_0 : decode prog_2_method_13_code 0 = .ok (.aload_n 0, 1) := by decide +kernel
theorem dd_As_emitLoad_1 : decode prog_2_method_13_code 1 = .ok (.iconst 0, 1) := by decide +kernel
theorem dd_As_emitLoad_2 : decode prog_2_method_13_code 2 = .ok (.sipush 512, 3) := by decide +kernel
theorem dd_As_emitLoad_5 : decode prog_2_method_13_code 5 = .ok (.aload_n 0, 1) := by decide +kernel
theorem dd_As_emitLoad_6 : decode prog_2_method_13_code 6 = .ok (.getfield 35, 3) := by decide +kernel
theorem dd_As_emitLoad_9 : decode prog_2_method_13_code 9 = .ok (.getfield 170, 3) := by decide +kernel
theorem dd_As_emitLoad_12 : decode prog_2_method_13_code 12 = .ok (.aload_n 0, 1) := by decide +kernel
theorem dd_As_emitLoad_13 : decode prog_2_method_13_code 13 = .ok (.getfield 90, 3) := by decide +kernel
theorem dd_As_emitLoad_16 : decode prog_2_method_13_code 16 = .ok (.aaload, 1) := by decide +kernel
theorem dd_As_emitLoad_17 : decode prog_2_method_13_code 17 = .ok (.iload_n 2, 1) := by decide +kernel
theorem dd_As_emitLoad_18 : decode prog_2_method_13_code 18 = .ok (.iaload, 1) := by decide +kernel
theorem dd_As_emitLoad_19 : decode prog_2_method_13_code 19 = .ok (.iadd, 1) := by decide +kernel
theorem dd_As_emitLoad_20 : decode prog_2_method_13_code 20 = .ok (.invokevirtual 161, 3) := by decide +kernel
theorem dd_As_emitLoad_23 : decode prog_2_method_13_code 23 = .ok (.aload_n 0, 1) := by decide +kernel
theorem dd_As_emitLoad_24 : decode prog_2_method_13_code 24 = .ok (.iconst 1, 1) := by decide +kernel
theorem dd_As_emitLoad_25 : decode prog_2_method_13_code 25 = .ok (.aload_n 0, 1) := by decide +kernel
theorem dd_As_emitLoad_26 : decode prog_2_method_13_code 26 = .ok (.iload_n 1, 1) := by decide +kernel
theorem dd_As_emitLoad_27 : decode prog_2_method_13_code 27 = .ok (.iconst 0, 1) := by decide +kernel
theorem dd_As_emitLoad_28 : decode prog_2_method_13_code 28 = .ok (.invokevirtual 164, 3) := by decide +kernel
theorem dd_As_emitLoad_31 : decode prog_2_method_13_code 31 = .ok (.invokevirtual 161, 3) := by decide +kernel
theorem dd_As_emitLoad_34 : decode prog_2_method_13_code 34 = .ok (.aload_n 0, 1) := by decide +kernel
theorem dd_As_emitLoad_35 : decode prog_2_method_13_code 35 = .ok (.iload_n 1, 1) := by decide +kernel
theorem dd_As_emitLoad_36 : decode prog_2_method_13_code 36 = .ok (.invokevirtual 167, 3) := by decide +kernel
theorem dd_As_emitLoad_39 : decode prog_2_method_13_code 39 = .ok (.ifCond .eq (22), 3) := by decide +kernel
theorem dd_As_emitLoad_42 : decode prog_2_method_13_code 42 = .ok (.aload_n 0, 1) := by decide +kernel
theorem dd_As_emitLoad_43 : decode prog_2_method_13_code 43 = .ok (.iconst 0, 1) := by decide +kernel
theorem dd_As_emitLoad_44 : decode prog_2_method_13_code 44 = .ok (.sipush 256, 3) := by decide +kernel
theorem dd_As_emitLoad_47 : decode prog_2_method_13_code 47 = .ok (.invokevirtual 161, 3) := by decide +kernel
theorem dd_As_emitLoad_50 : decode prog_2_method_13_code 50 = .ok (.aload_n 0, 1) := by decide +kernel
theorem dd_As_emitLoad_51 : decode prog_2_method_13_code 51 = .ok (.iconst 1, 1) := by decide +kernel
theorem dd_As_emitLoad_52 : decode prog_2_method_13_code 52 = .ok (.aload_n 0, 1) := by decide +kernel
theorem dd_As_emitLoad_53 : decode prog_2_method_13_code 53 = .ok (.iload_n 1, 1) := by decide +kernel
theorem dd_As_emitLoad_54 : decode prog_2_method_13_code 54 = .ok (.iconst 1, 1) := by decide +kernel
theorem dd_As_emitLoad_55 : decode prog_2_method_13_code 55 = .ok (.invokevirtual 164, 3) := by decide +kernel
theorem dd_As_emitLoad_58 : decode prog_2_method_13_code 58 = .ok (.invokevirtual 161, 3) := by decide +kernel
theorem dd_As_emitLoad_61 : decode prog_2_method_13_code 61 = .ok (.return_, 1) := by decide +kernel
theorem dd_As_emitStore_0 : decode prog_2_method_14_code 0 = .ok (.aload_n 0, 1) := by decide +kernel
theorem dd_As_emitStore_1 : decode prog_2_method_14_code 1 = .ok (.iconst 0, 1) := by decide +kernel
theorem dd_As_emitStore_2 : decode prog_2_method_14_code 2 = .ok (.aload_n 0, 1) := by decide +kernel
theorem dd_As_emitStore_3 : decode prog_2_method_14_code 3 = .ok (.iload_n 2, 1) := by decide +kernel
theorem dd_As_emitStore_4 : decode prog_2_method_14_code 4 = .ok (.iconst 0, 1) := by decide +kernel
theorem dd_As_emitStore_5 : decode prog_2_method_14_code 5 = .ok (.invokevirtual 164, 3) := by decide +kernel
theorem dd_As_emitStore_8 : decode prog_2_method_14_code 8 = .ok (.invokevirtual 161, 3) := by decide +kernel
theorem dd_As_emitStore_11 : decode prog_2_method_14_code 11 = .ok (.aload_n 0, 1) := by decide +kernel
theorem dd_As_emitStore_12 : decode prog_2_method_14_code 12 = .ok (.iconst 1, 1) := by decide +kernel
theorem dd_As_emitStore_13 : decode prog_2_method_14_code 13 = .ok (.sipush 512, 3) := by decide +kernel
theorem dd_As_emitStore_16 : decode prog_2_method_14_code 16 = .ok (.aload_n 0, 1) := by decide +kernel
theorem dd_As_emitStore_17 : decode prog_2_method_14_code 17 = .ok (.getfield 35, 3) := by decide +kernel
theorem dd_As_emitStore_20 : decode prog_2_method_14_code 20 = .ok (.getfield 170, 3) := by decide +kernel
theorem dd_As_emitStore_23 : decode prog_2_method_14_code 23 = .ok (.aload_n 0, 1) := by decide +kernel
theorem dd_As_emitStore_24 : decode prog_2_method_14_code 24 = .ok (.getfield 90, 3) := by decide +kernel
theorem dd_As_emitStore_27 : decode prog_2_method_14_code 27 = .ok (.aaload, 1) := by decide +kernel
theorem dd_As_emitStore_28 : decode prog_2_method_14_code 28 = .ok (.iload_n 1, 1) := by decide +kernel
theorem dd_As_emitStore_29 : decode prog_2_method_14_code 29 = .ok (.iaload, 1) := by decide +kernel
theorem dd_As_emitStore_30 : decode prog_2_method_14_code 30 = .ok (.iadd, 1) := by decide +kernel
theorem dd_As_emitStore_31 : decode prog_2_method_14_code 31 = .ok (.invokevirtual 161, 3) := by decide +kernel
theorem dd_As_emitStore_34 : decode prog_2_method_14_code 34 = .ok (.return_, 1) := by decide +kernel
theorem dd_As_emitIndex_0 : decode prog_2_method_15_code 0 = .ok (.aload_n 0, 1) := by decide +kernel
theorem dd_As_emitIndex_1 : decode prog_2_method_15_code 1 = .ok (.bipush 9, 2) := by decide +kernel
theorem dd_As_emitIndex_3 : decode prog_2_method_15_code 3 = .ok (.aload_n 0, 1) := by decide +kernel
theorem dd_As_emitIndex_4 : decode prog_2_method_15_code 4 = .ok (.iload_n 2, 1) := by decide +kernel
theorem dd_As_emitIndex_5 : decode prog_2_method_15_code 5 = .ok (.iconst 0, 1) := by decide +kernel
theorem dd_As_emitIndex_6 : decode prog_2_method_15_code 6 = .ok (.invokevirtual 164, 3) := by decide +kernel
theorem dd_As_emitIndex_9 : decode prog_2_method_15_code 9 = .ok (.invokevirtual 161, 3) := by decide +kernel
theorem dd_As_emitIndex_12 : decode prog_2_method_15_code 12 = .ok (.aload_n 0, 1) := by decide +kernel
theorem dd_As_emitIndex_13 : decode prog_2_method_15_code 13 = .ok (.bipush 11, 2) := by decide +kernel
theorem dd_As_emitIndex_15 : decode prog_2_method_15_code 15 = .ok (.sipush 256, 3) := by decide +kernel
theorem dd_As_emitIndex_18 : decode prog_2_method_15_code 18 = .ok (.aload_n 0, 1) := by decide +kernel
theorem dd_As_emitIndex_19 : decode prog_2_method_15_code 19 = .ok (.getfield 31, 3) := by decide +kernel
theorem dd_As_emitIndex_22 : decode prog_2_method_15_code 22 = .ok (.aload_n 0, 1) := by decide +kernel
theorem dd_As_emitIndex_23 : decode prog_2_method_15_code 23 = .ok (.getfield 90, 3) := by decide +kernel
theorem dd_As_emitIndex_26 : decode prog_2_method_15_code 26 = .ok (.iload_n 1, 1) := by decide +kernel
theorem dd_As_emitIndex_27 : decode prog_2_method_15_code 27 = .ok (.invokevirtual 157, 3) := by decide +kernel
theorem dd_As_emitIndex_30 : decode prog_2_method_15_code 30 = .ok (.iadd, 1) := by decide +kernel
theorem dd_As_emitIndex_31 : decode prog_2_method_15_code 31 = .ok (.invokevirtual 161, 3) := by decide +kernel
theorem dd_As_emitIndex_34 : decode prog_2_method_15_code 34 = .ok (.aload_n 0, 1) := by decide +kernel
theorem dd_As_emitIndex_35 : decode prog_2_method_15_code 35 = .ok (.sipush 134, 3) := by decide +kernel
theorem dd_As_emitIndex_38 : decode prog_2_method_15_code 38 = .ok (.invokevirtual 176, 3) := by decide +kernel
theorem dd_As_emitIndex_41 : decode prog_2_method_15_code 41 = .ok (.aload_n 0, 1) := by decide +kernel
theorem dd_As_emitIndex_42 : decode prog_2_method_15_code 42 = .ok (.iconst 1, 1) := by decide +kernel
theorem dd_As_emitIndex_43 : decode prog_2_method_15_code 43 = .ok (.invokevirtual 176, 3) := by decide +kernel
theorem dd_As_emitIndex_46 : decode prog_2_method_15_code 46 = .ok (.aload_n 0, 1) := by decide +kernel
theorem dd_As_emitIndex_47 : decode prog_2_method_15_code 47 = .ok (.bipush 22, 2) := by decide +kernel
theorem dd_As_emitIndex_49 : decode prog_2_method_15_code 49 = .ok (.invokevirtual 116, 3) := by decide +kernel
theorem dd_As_emitIndex_52 : decode prog_2_method_15_code 52 = .ok (.return_, 1) := by decide +kernel
theorem dd_As_emitZero_0 : decode prog_2_method_16_code 0 = .ok (.aload_n 0, 1) := by decide +kernel
theorem dd_As_emitZero_1 : decode prog_2_method_16_code 1 = .ok (.iload_n 1, 1) := by decide +kernel
theorem dd_As_emitZero_2 : decode prog_2_method_16_code 2 = .ok (.invokevirtual 167, 3) := by decide +kernel
theorem dd_As_emitZero_5 : decode prog_2_method_16_code 5 = .ok (.ifCond .eq (28), 3) := by decide +kernel
theorem dd_As_emitZero_8 : decode prog_2_method_16_code 8 = .ok (.aload_n 0, 1) := by decide +kernel
theorem dd_As_emitZero_9 : decode prog_2_method_16_code 9 = .ok (.iconst 0, 1) := by decide +kernel
theorem dd_As_emitZero_10 : decode prog_2_method_16_code 10 = .ok (.aload_n 0, 1) := by decide +kernel
theorem dd_As_emitZero_11 : decode prog_2_method_16_code 11 = .ok (.iload_n 1, 1) := by decide +kernel
theorem dd_As_emitZero_12 : decode prog_2_method_16_code 12 = .ok (.iconst 0, 1) := by decide +kernel
theorem dd_As_emitZero_13 : decode prog_2_method_16_code 13 = .ok (.invokevirtual 164, 3) := by decide +kernel
theorem dd_As_emitZero_16 : decode prog_2_method_16_code 16 = .ok (.invokevirtual 161, 3) := by decide +kernel
theorem dd_As_emitZero_19 : decode prog_2_method_16_code 19 = .ok (.aload_n 0, 1) := by decide +kernel
theorem dd_As_emitZero_20 : decode prog_2_method_16_code 20 = .ok (.iconst 5, 1) := by decide +kernel
theorem dd_As_emitZero_21 : decode prog_2_method_16_code 21 = .ok (.aload_n 0, 1) := by decide +kernel
theorem dd_As_emitZero_22 : decode prog_2_method_16_code 22 = .ok (.iload_n 1, 1) := by decide +kernel
theorem dd_As_emitZero_23 : decode prog_2_method_16_code 23 = .ok (.iconst 1, 1) := by decide +kernel
theorem dd_As_emitZero_24 : decode prog_2_method_16_code 24 = .ok (.invokevirtual 164, 3) := by decide +kernel
theorem dd_As_emitZero_27 : decode prog_2_method_16_code 27 = .ok (.invokevirtual 161, 3) := by decide +kernel
theorem dd_As_emitZero_30 : decode prog_2_method_16_code 30 = .ok (.goto (19), 3) := by decide +kernel
theorem dd_As_emitZero_33 : decode prog_2_method_16_code 33 = .ok (.aload_n 0, 1) := by decide +kernel
theorem dd_As_emitZero_34 : decode prog_2_method_16_code 34 = .ok (.iconst (-1), 1) := by decide +kernel
theorem dd_As_emitZero_35 : decode prog_2_method_16_code 35 = .ok (.putfield 93, 3) := by decide +kernel
theorem dd_As_emitZero_38 : decode prog_2_method_16_code 38 = .ok (.aload_n 0, 1) := by decide +kernel
theorem dd_As_emitZero_39 : decode prog_2_method_16_code 39 = .ok (.iconst 0, 1) := by decide +kernel
theorem dd_As_emitZero_40 : decode prog_2_method_16_code 40 = .ok (.aload_n 0, 1) := by decide +kernel
theorem dd_As_emitZero_41 : decode prog_2_method_16_code 41 = .ok (.iload_n 1, 1) := by decide +kernel
theorem dd_As_emitZero_42 : decode prog_2_method_16_code 42 = .ok (.iconst 0, 1) := by decide +kernel
theorem dd_As_emitZero_43 : decode prog_2_method_16_code 43 = .ok (.invokevirtual 164, 3) := by decide +kernel
theorem dd_As_emitZero_46 : decode prog_2_method_16_code 46 = .ok (.invokevirtual 161, 3) := by decide +kernel
theorem dd_As_emitZero_49 : decode prog_2_method_16_code 49 = .ok (.return_, 1) := by decide +kernel
theorem dd_As_emitBelow_0 : decode prog_2_method_17_code 0 = .ok (.aload_n 0, 1) := by decide +kernel
theorem dd_As_emitBelow_1 : decode prog_2_method_17_code 1 = .ok (.iconst 0, 1) := by decide +kernel
theorem dd_As_emitBelow_2 : decode prog_2_method_17_code 2 = .ok (.aload_n 0, 1) := by decide +kernel
theorem dd_As_emitBelow_3 : decode prog_2_method_17_code 3 = .ok (.iload_n 1, 1) := by decide +kernel
theorem dd_As_emitBelow_4 : decode prog_2_method_17_code 4 = .ok (.iconst 0, 1) := by decide +kernel
theorem dd_As_emitBelow_5 : decode prog_2_method_17_code 5 = .ok (.invokevirtual 164, 3) := by decide +kernel
theorem dd_As_emitBelow_8 : decode prog_2_method_17_code 8 = .ok (.invokevirtual 161, 3) := by decide +kernel
theorem dd_As_emitBelow_11 : decode prog_2_method_17_code 11 = .ok (.aload_n 0, 1) := by decide +kernel
theorem dd_As_emitBelow_12 : decode prog_2_method_17_code 12 = .ok (.bipush 10, 2) := by decide +kernel
theorem dd_As_emitBelow_14 : decode prog_2_method_17_code 14 = .ok (.aload_n 0, 1) := by decide +kernel
theorem dd_As_emitBelow_15 : decode prog_2_method_17_code 15 = .ok (.iload_n 2, 1) := by decide +kernel
theorem dd_As_emitBelow_16 : decode prog_2_method_17_code 16 = .ok (.iconst 0, 1) := by decide +kernel
theorem dd_As_emitBelow_17 : decode prog_2_method_17_code 17 = .ok (.invokevirtual 164, 3) := by decide +kernel
theorem dd_As_emitBelow_20 : decode prog_2_method_17_code 20 = .ok (.invokevirtual 161, 3) := by decide +kernel
theorem dd_As_emitBelow_23 : decode prog_2_method_17_code 23 = .ok (.aload_n 0, 1) := by decide +kernel
theorem dd_As_emitBelow_24 : decode prog_2_method_17_code 24 = .ok (.iload_n 1, 1) := by decide +kernel
theorem dd_As_emitBelow_25 : decode prog_2_method_17_code 25 = .ok (.invokevirtual 167, 3) := by decide +kernel
theorem dd_As_emitBelow_28 : decode prog_2_method_17_code 28 = .ok (.ifCond .ne (11), 3) := by decide +kernel
theorem dd_As_emitBelow_31 : decode prog_2_method_17_code 31 = .ok (.aload_n 0, 1) := by decide +kernel
theorem dd_As_emitBelow_32 : decode prog_2_method_17_code 32 = .ok (.iload_n 2, 1) := by decide +kernel
theorem dd_As_emitBelow_33 : decode prog_2_method_17_code 33 = .ok (.invokevirtual 167, 3) := by decide +kernel
theorem dd_As_emitBelow_36 : decode prog_2_method_17_code 36 = .ok (.ifCond .eq (25), 3) := by decide +kernel
theorem dd_As_emitBelow_39 : decode prog_2_method_17_code 39 = .ok (.aload_n 0, 1) := by decide +kernel
theorem dd_As_emitBelow_40 : decode prog_2_method_17_code 40 = .ok (.iconst 0, 1) := by decide +kernel
theorem dd_As_emitBelow_41 : decode prog_2_method_17_code 41 = .ok (.aload_n 0, 1) := by decide +kernel
theorem dd_As_emitBelow_42 : decode prog_2_method_17_code 42 = .ok (.iload_n 1, 1) := by decide +kernel
theorem dd_As_emitBelow_43 : decode prog_2_method_17_code 43 = .ok (.iconst 1, 1) := by decide +kernel
theorem dd_As_emitBelow_44 : decode prog_2_method_17_code 44 = .ok (.invokevirtual 164, 3) := by decide +kernel
theorem dd_As_emitBelow_47 : decode prog_2_method_17_code 47 = .ok (.invokevirtual 161, 3) := by decide +kernel
theorem dd_As_emitBelow_50 : decode prog_2_method_17_code 50 = .ok (.aload_n 0, 1) := by decide +kernel
theorem dd_As_emitBelow_51 : decode prog_2_method_17_code 51 = .ok (.iconst 3, 1) := by decide +kernel
theorem dd_As_emitBelow_52 : decode prog_2_method_17_code 52 = .ok (.aload_n 0, 1) := by decide +kernel
theorem dd_As_emitBelow_53 : decode prog_2_method_17_code 53 = .ok (.iload_n 2, 1) := by decide +kernel
theorem dd_As_emitBelow_54 : decode prog_2_method_17_code 54 = .ok (.iconst 1, 1) := by decide +kernel
theorem dd_As_emitBelow_55 : decode prog_2_method_17_code 55 = .ok (.invokevirtual 164, 3) := by decide +kernel
theorem dd_As_emitBelow_58 : decode prog_2_method_17_code 58 = .ok (.invokevirtual 161, 3) := by decide +kernel
theorem dd_As_emitBelow_61 : decode prog_2_method_17_code 61 = .ok (.return_, 1) := by decide +kernel
theorem dd_As_emitCall_0 : decode prog_2_method_18_code 0 = .ok (.aload_n 0, 1) := by decide +kernel
theorem dd_As_emitCall_1 : decode prog_2_method_18_code 1 = .ok (.getfield 31, 3) := by decide +kernel
theorem dd_As_emitCall_4 : decode prog_2_method_18_code 4 = .ok (.iload_n 1, 1) := by decide +kernel
theorem dd_As_emitCall_5 : decode prog_2_method_18_code 5 = .ok (.iconst 0, 1) := by decide +kernel
theorem dd_As_emitCall_6 : decode prog_2_method_18_code 6 = .ok (.invokevirtual 157, 3) := by decide +kernel
theorem dd_As_emitCall_9 : decode prog_2_method_18_code 9 = .ok (.istore 4, 2) := by decide +kernel
theorem dd_As_emitCall_11 : decode prog_2_method_18_code 11 = .ok (.iload 4, 2) := by decide +kernel
theorem dd_As_emitCall_13 : decode prog_2_method_18_code 13 = .ok (.invokestatic 179, 3) := by decide +kernel
theorem dd_As_emitCall_16 : decode prog_2_method_18_code 16 = .ok (.ifCond .eq (50), 3) := by decide +kernel
theorem dd_As_emitCall_19 : decode prog_2_method_18_code 19 = .ok (.iconst 0, 1) := by decide +kernel
theorem dd_As_emitCall_20 : decode prog_2_method_18_code 20 = .ok (.istore 5, 2) := by decide +kernel
theorem dd_As_emitCall_22 : decode prog_2_method_18_code 22 = .ok (.iload 5, 2) := by decide +kernel
theorem dd_As_emitCall_24 : decode prog_2_method_18_code 24 = .ok (.iload 4, 2) := by decide +kernel
theorem dd_As_emitCall_26 : decode prog_2_method_18_code 26 = .ok (.if_icmp .ge (40), 3) := by decide +kernel
theorem dd_As_emitCall_29 : decode prog_2_method_18_code 29 = .ok (.aload_n 0, 1) := by decide +kernel
theorem dd_As_emitCall_30 : decode prog_2_method_18_code 30 = .ok (.iconst 0, 1) := by decide +kernel
theorem dd_As_emitCall_31 : decode prog_2_method_18_code 31 = .ok (.aload_n 0, 1) := by decide +kernel
theorem dd_As_emitCall_32 : decode prog_2_method_18_code 32 = .ok (.iload_n 2, 1) := by decide +kernel
theorem dd_As_emitCall_33 : decode prog_2_method_18_code 33 = .ok (.iload 5, 2) := by decide +kernel
theorem dd_As_emitCall_35 : decode prog_2_method_18_code 35 = .ok (.invokevirtual 164, 3) := by decide +kernel
theorem dd_As_emitCall_38 : decode prog_2_method_18_code 38 = .ok (.invokevirtual 161, 3) := by decide +kernel
theorem dd_As_emitCall_41 : decode prog_2_method_18_code 41 = .ok (.aload_n 0, 1) := by decide +kernel
theorem dd_As_emitCall_42 : decode prog_2_method_18_code 42 = .ok (.iconst 1, 1) := by decide +kernel
theorem dd_As_emitCall_43 : decode prog_2_method_18_code 43 = .ok (.aload_n 0, 1) := by decide +kernel
theorem dd_As_emitCall_44 : decode prog_2_method_18_code 44 = .ok (.getfield 35, 3) := by decide +kernel
theorem dd_As_emitCall_47 : decode prog_2_method_18_code 47 = .ok (.getfield 170, 3) := by decide +kernel
theorem dd_As_emitCall_50 : decode prog_2_method_18_code 50 = .ok (.iload_n 1, 1) := by decide +kernel
theorem dd_As_emitCall_51 : decode prog_2_method_18_code 51 = .ok (.aaload, 1) := by decide +kernel
theorem dd_As_emitCall_52 : decode prog_2_method_18_code 52 = .ok (.iconst 0, 1) := by decide +kernel
theorem dd_As_emitCall_53 : decode prog_2_method_18_code 53 = .ok (.iaload, 1) := by decide +kernel
theorem dd_As_emitCall_54 : decode prog_2_method_18_code 54 = .ok (.iload 5, 2) := by decide +kernel
theorem dd_As_emitCall_56 : decode prog_2_method_18_code 56 = .ok (.iadd, 1) := by decide +kernel
theorem dd_As_emitCall_57 : decode prog_2_method_18_code 57 = .ok (.invokevirtual 161, 3) := by decide +kernel
theorem dd_As_emitCall_60 : decode prog_2_method_18_code 60 = .ok (.iinc 5 1, 3) := by decide +kernel
theorem dd_As_emitCall_63 : decode prog_2_method_18_code 63 = .ok (.goto (-41), 3) := by decide +kernel
theorem dd_As_emitCall_66 : decode prog_2_method_18_code 66 = .ok (.aload_n 0, 1) := by decide +kernel
theorem dd_As_emitCall_67 : decode prog_2_method_18_code 67 = .ok (.bipush 19, 2) := by decide +kernel
theorem dd_As_emitCall_69 : decode prog_2_method_18_code 69 = .ok (.aload_n 0, 1) := by decide +kernel
theorem dd_As_emitCall_70 : decode prog_2_method_18_code 70 = .ok (.getfield 18, 3) := by decide +kernel
theorem dd_As_emitCall_73 : decode prog_2_method_18_code 73 = .ok (.aload_n 0, 1) := by decide +kernel
theorem dd_As_emitCall_74 : decode prog_2_method_18_code 74 = .ok (.getfield 31, 3) := by decide +kernel
theorem dd_As_emitCall_77 : decode prog_2_method_18_code 77 = .ok (.getfield 84, 3) := by decide +kernel
theorem dd_As_emitCall_80 : decode prog_2_method_18_code 80 = .ok (.iload_n 1, 1) := by decide +kernel
theorem dd_As_emitCall_81 : decode prog_2_method_18_code 81 = .ok (.iaload, 1) := by decide +kernel
theorem dd_As_emitCall_82 : decode prog_2_method_18_code 82 = .ok (.iaload, 1) := by decide +kernel
theorem dd_As_emitCall_83 : decode prog_2_method_18_code 83 = .ok (.invokevirtual 135, 3) := by decide +kernel
theorem dd_As_emitCall_86 : decode prog_2_method_18_code 86 = .ok (.aload_n 0, 1) := by decide +kernel
theorem dd_As_emitCall_87 : decode prog_2_method_18_code 87 = .ok (.iconst (-1), 1) := by decide +kernel
theorem dd_As_emitCall_88 : decode prog_2_method_18_code 88 = .ok (.putfield 93, 3) := by decide +kernel
theorem dd_As_emitCall_91 : decode prog_2_method_18_code 91 = .ok (.iconst 0, 1) := by decide +kernel
theorem dd_As_emitCall_92 : decode prog_2_method_18_code 92 = .ok (.istore 5, 2) := by decide +kernel
theorem dd_As_emitCall_94 : decode prog_2_method_18_code 94 = .ok (.iload 5, 2) := by decide +kernel
theorem dd_As_emitCall_96 : decode prog_2_method_18_code 96 = .ok (.aload_n 0, 1) := by decide +kernel
theorem dd_As_emitCall_97 : decode prog_2_method_18_code 97 = .ok (.getfield 31, 3) := by decide +kernel
theorem dd_As_emitCall_100 : decode prog_2_method_18_code 100 = .ok (.aload_n 0, 1) := by decide +kernel
theorem dd_As_emitCall_101 : decode prog_2_method_18_code 101 = .ok (.getfield 90, 3) := by decide +kernel
theorem dd_As_emitCall_104 : decode prog_2_method_18_code 104 = .ok (.iload_n 3, 1) := by decide +kernel
theorem dd_As_emitCall_105 : decode prog_2_method_18_code 105 = .ok (.invokevirtual 157, 3) := by decide +kernel
theorem dd_As_emitCall_108 : decode prog_2_method_18_code 108 = .ok (.if_icmp .ge (31), 3) := by decide +kernel
theorem dd_As_emitCall_111 : decode prog_2_method_18_code 111 = .ok (.aload_n 0, 1) := by decide +kernel
theorem dd_As_emitCall_112 : decode prog_2_method_18_code 112 = .ok (.iconst 0, 1) := by decide +kernel
theorem dd_As_emitCall_113 : decode prog_2_method_18_code 113 = .ok (.bipush 126, 2) := by decide +kernel
theorem dd_As_emitCall_115 : decode prog_2_method_18_code 115 = .ok (.iload 5, 2) := by decide +kernel
theorem dd_As_emitCall_117 : decode prog_2_method_18_code 117 = .ok (.iadd, 1) := by decide +kernel
theorem dd_As_emitCall_118 : decode prog_2_method_18_code 118 = .ok (.invokevirtual 161, 3) := by decide +kernel
theorem dd_As_emitCall_121 : decode prog_2_method_18_code 121 = .ok (.aload_n 0, 1) := by decide +kernel
theorem dd_As_emitCall_122 : decode prog_2_method_18_code 122 = .ok (.iconst 1, 1) := by decide +kernel
theorem dd_As_emitCall_123 : decode prog_2_method_18_code 123 = .ok (.aload_n 0, 1) := by decide +kernel
theorem dd_As_emitCall_124 : decode prog_2_method_18_code 124 = .ok (.iload_n 3, 1) := by decide +kernel
theorem dd_As_emitCall_125 : decode prog_2_method_18_code 125 = .ok (.iload 5, 2) := by decide +kernel
theorem dd_As_emitCall_127 : decode prog_2_method_18_code 127 = .ok (.invokevirtual 164, 3) := by decide +kernel
theorem dd_As_emitCall_130 : decode prog_2_method_18_code 130 = .ok (.invokevirtual 161, 3) := by decide +kernel
theorem dd_As_emitCall_133 : decode prog_2_method_18_code 133 = .ok (.iinc 5 1, 3) := by decide +kernel
theorem dd_As_emitCall_136 : decode prog_2_method_18_code 136 = .ok (.goto (-42), 3) := by decide +kernel
theorem dd_As_emitCall_139 : decode prog_2_method_18_code 139 = .ok (.return_, 1) := by decide +kernel
theorem dd_As_emitReturn_0 : decode prog_2_method_19_code 0 = .ok (.iconst 0, 1) := by decide +kernel
theorem dd_As_emitReturn_1 : decode prog_2_method_19_code 1 = .ok (.istore_n 2, 1) := by decide +kernel
theorem dd_As_emitReturn_2 : decode prog_2_method_19_code 2 = .ok (.iload_n 2, 1) := by decide +kernel
theorem dd_As_emitReturn_3 : decode prog_2_method_19_code 3 = .ok (.iconst 2, 1) := by decide +kernel
theorem dd_As_emitReturn_4 : decode prog_2_method_19_code 4 = .ok (.if_icmp .ge (29), 3) := by decide +kernel
theorem dd_As_emitReturn_7 : decode prog_2_method_19_code 7 = .ok (.aload_n 0, 1) := by decide +kernel
theorem dd_As_emitReturn_8 : decode prog_2_method_19_code 8 = .ok (.iconst 0, 1) := by decide +kernel
theorem dd_As_emitReturn_9 : decode prog_2_method_19_code 9 = .ok (.aload_n 0, 1) := by decide +kernel
theorem dd_As_emitReturn_10 : decode prog_2_method_19_code 10 = .ok (.iload_n 1, 1) := by decide +kernel
theorem dd_As_emitReturn_11 : decode prog_2_method_19_code 11 = .ok (.iload_n 2, 1) := by decide +kernel
theorem dd_As_emitReturn_12 : decode prog_2_method_19_code 12 = .ok (.invokevirtual 164, 3) := by decide +kernel
theorem dd_As_emitReturn_15 : decode prog_2_method_19_code 15 = .ok (.invokevirtual 161, 3) := by decide +kernel
theorem dd_As_emitReturn_18 : decode prog_2_method_19_code 18 = .ok (.aload_n 0, 1) := by decide +kernel
theorem dd_As_emitReturn_19 : decode prog_2_method_19_code 19 = .ok (.iconst 1, 1) := by decide +kernel
theorem dd_As_emitReturn_20 : decode prog_2_method_19_code 20 = .ok (.bipush 126, 2) := by decide +kernel
theorem dd_As_emitReturn_22 : decode prog_2_method_19_code 22 = .ok (.iload_n 2, 1) := by decide +kernel
theorem dd_As_emitReturn_23 : decode prog_2_method_19_code 23 = .ok (.iadd, 1) := by decide +kernel
theorem dd_As_emitReturn_24 : decode prog_2_method_19_code 24 = .ok (.invokevirtual 161, 3) := by decide +kernel
theorem dd_As_emitReturn_27 : decode prog_2_method_19_code 27 = .ok (.iinc 2 1, 3) := by decide +kernel
theorem dd_As_emitReturn_30 : decode prog_2_method_19_code 30 = .ok (.goto (-28), 3) := by decide +kernel
theorem dd_As_emitReturn_33 : decode prog_2_method_19_code 33 = .ok (.aload_n 0, 1) := by decide +kernel
theorem dd_As_emitReturn_34 : decode prog_2_method_19_code 34 = .ok (.bipush 20, 2) := by decide +kernel
theorem dd_As_emitReturn_36 : decode prog_2_method_19_code 36 = .ok (.invokevirtual 116, 3) := by decide +kernel
theorem dd_As_emitReturn_39 : decode prog_2_method_19_code 39 = .ok (.return_, 1) := by decide +kernel
theorem dd_As_emitOut_0 : decode prog_2_method_20_code 0 = .ok (.iconst 0, 1) := by decide +kernel
theorem dd_As_emitOut_1 : decode prog_2_method_20_code 1 = .ok (.istore_n 2, 1) := by decide +kernel
theorem dd_As_emitOut_2 : decode prog_2_method_20_code 2 = .ok (.iload_n 2, 1) := by decide +kernel
theorem dd_As_emitOut_3 : decode prog_2_method_20_code 3 = .ok (.aload_n 0, 1) := by decide +kernel
theorem dd_As_emitOut_4 : decode prog_2_method_20_code 4 = .ok (.getfield 31, 3) := by decide +kernel
theorem dd_As_emitOut_7 : decode prog_2_method_20_code 7 = .ok (.aload_n 0, 1) := by decide +kernel
theorem dd_As_emitOut_8 : decode prog_2_method_20_code 8 = .ok (.getfield 90, 3) := by decide +kernel
theorem dd_As_emitOut_11 : decode prog_2_method_20_code 11 = .ok (.iload_n 1, 1) := by decide +kernel
theorem dd_As_emitOut_12 : decode prog_2_method_20_code 12 = .ok (.invokevirtual 157, 3) := by decide +kernel
theorem dd_As_emitOut_15 : decode prog_2_method_20_code 15 = .ok (.if_icmp .ge (26), 3) := by decide +kernel
theorem dd_As_emitOut_18 : decode prog_2_method_20_code 18 = .ok (.aload_n 0, 1) := by decide +kernel
theorem dd_As_emitOut_19 : decode prog_2_method_20_code 19 = .ok (.iconst 0, 1) := by decide +kernel
theorem dd_As_emitOut_20 : decode prog_2_method_20_code 20 = .ok (.aload_n 0, 1) := by decide +kernel
theorem dd_As_emitOut_21 : decode prog_2_method_20_code 21 = .ok (.iload_n 1, 1) := by decide +kernel
theorem dd_As_emitOut_22 : decode prog_2_method_20_code 22 = .ok (.iload_n 2, 1) := by decide +kernel
theorem dd_As_emitOut_23 : decode prog_2_method_20_code 23 = .ok (.invokevirtual 164, 3) := by decide +kernel
theorem dd_As_emitOut_26 : decode prog_2_method_20_code 26 = .ok (.invokevirtual 161, 3) := by decide +kernel
theorem dd_As_emitOut_29 : decode prog_2_method_20_code 29 = .ok (.aload_n 0, 1) := by decide +kernel
theorem dd_As_emitOut_30 : decode prog_2_method_20_code 30 = .ok (.bipush 21, 2) := by decide +kernel
theorem dd_As_emitOut_32 : decode prog_2_method_20_code 32 = .ok (.invokevirtual 116, 3) := by decide +kernel
theorem dd_As_emitOut_35 : decode prog_2_method_20_code 35 = .ok (.iinc 2 1, 3) := by decide +kernel
theorem dd_As_emitOut_38 : decode prog_2_method_20_code 38 = .ok (.goto (-36), 3) := by decide +kernel
theorem dd_As_emitOut_41 : decode prog_2_method_20_code 41 = .ok (.return_, 1) := by decide +kernel
theorem dd_As_isWide_0 : decode prog_2_method_21_code 0 = .ok (.aload_n 0, 1) := by decide +kernel
theorem dd_As_isWide_1 : decode prog_2_method_21_code 1 = .ok (.getfield 31, 3) := by decide +kernel
theorem dd_As_isWide_4 : decode prog_2_method_21_code 4 = .ok (.aload_n 0, 1) := by decide +kernel
theorem dd_As_isWide_5 : decode prog_2_method_21_code 5 = .ok (.getfield 90, 3) := by decide +kernel
theorem dd_As_isWide_8 : decode prog_2_method_21_code 8 = .ok (.iload_n 1, 1) := by decide +kernel
theorem dd_As_isWide_9 : decode prog_2_method_21_code 9 = .ok (.invokevirtual 157, 3) := by decide +kernel
theorem dd_As_isWide_12 : decode prog_2_method_21_code 12 = .ok (.iconst 2, 1) := by decide +kernel
theorem dd_As_isWide_13 : decode prog_2_method_21_code 13 = .ok (.if_icmp .ne (7), 3) := by decide +kernel
theorem dd_As_isWide_16 : decode prog_2_method_21_code 16 = .ok (.iconst 1, 1) := by decide +kernel
theorem dd_As_isWide_17 : decode prog_2_method_21_code 17 = .ok (.goto (4), 3) := by decide +kernel
theorem dd_As_isWide_20 : decode prog_2_method_21_code 20 = .ok (.iconst 0, 1) := by decide +kernel
theorem dd_As_isWide_21 : decode prog_2_method_21_code 21 = .ok (.ireturn, 1) := by decide +kernel
theorem dd_As_part_0 : decode prog_2_method_22_code 0 = .ok (.iload_n 2, 1) := by decide +kernel
theorem dd_As_part_1 : decode prog_2_method_22_code 1 = .ok (.aload_n 0, 1) := by decide +kernel
theorem dd_As_part_2 : decode prog_2_method_22_code 2 = .ok (.getfield 31, 3) := by decide +kernel
theorem dd_As_part_5 : decode prog_2_method_22_code 5 = .ok (.aload_n 0, 1) := by decide +kernel
theorem dd_As_part_6 : decode prog_2_method_22_code 6 = .ok (.getfield 90, 3) := by decide +kernel
theorem dd_As_part_9 : decode prog_2_method_22_code 9 = .ok (.iload_n 1, 1) := by decide +kernel
theorem dd_As_part_10 : decode prog_2_method_22_code 10 = .ok (.invokevirtual 157, 3) := by decide +kernel
theorem dd_As_part_13 : decode prog_2_method_22_code 13 = .ok (.if_icmp .ge (22), 3) := by decide +kernel
theorem dd_As_part_16 : decode prog_2_method_22_code 16 = .ok (.aload_n 0, 1) := by decide +kernel
theorem dd_As_part_17 : decode prog_2_method_22_code 17 = .ok (.getfield 35, 3) := by decide +kernel
theorem dd_As_part_20 : decode prog_2_method_22_code 20 = .ok (.getfield 170, 3) := by decide +kernel
theorem dd_As_part_23 : decode prog_2_method_22_code 23 = .ok (.aload_n 0, 1) := by decide +kernel
theorem dd_As_part_24 : decode prog_2_method_22_code 24 = .ok (.getfield 90, 3) := by decide +kernel
theorem dd_As_part_27 : decode prog_2_method_22_code 27 = .ok (.aaload, 1) := by decide +kernel
theorem dd_As_part_28 : decode prog_2_method_22_code 28 = .ok (.iload_n 1, 1) := by decide +kernel
theorem dd_As_part_29 : decode prog_2_method_22_code 29 = .ok (.iaload, 1) := by decide +kernel
theorem dd_As_part_30 : decode prog_2_method_22_code 30 = .ok (.iload_n 2, 1) := by decide +kernel
theorem dd_As_part_31 : decode prog_2_method_22_code 31 = .ok (.iadd, 1) := by decide +kernel
theorem dd_As_part_32 : decode prog_2_method_22_code 32 = .ok (.goto (6), 3) := by decide +kernel
theorem dd_As_part_35 : decode prog_2_method_22_code 35 = .ok (.sipush 256, 3) := by decide +kernel
theorem dd_As_part_38 : decode prog_2_method_22_code 38 = .ok (.ireturn, 1) := by decide +kernel
theorem dd_As_emit_0 : decode prog_2_method_23_code 0 = .ok (.iload_n 1, 1) := by decide +kernel
theorem dd_As_emit_1 : decode prog_2_method_23_code 1 = .ok (.ifCond .ne (12), 3) := by decide +kernel
theorem dd_As_emit_4 : decode prog_2_method_23_code 4 = .ok (.iload_n 2, 1) := by decide +kernel
theorem dd_As_emit_5 : decode prog_2_method_23_code 5 = .ok (.aload_n 0, 1) := by decide +kernel
theorem dd_As_emit_6 : decode prog_2_method_23_code 6 = .ok (.getfield 93, 3) := by decide +kernel
theorem dd_As_emit_9 : decode prog_2_method_23_code 9 = .ok (.if_icmp .ne (4), 3) := by decide +kernel
theorem dd_As_emit_12 : decode prog_2_method_23_code 12 = .ok (.return_, 1) := by decide +kernel
theorem dd_As_emit_13 : decode prog_2_method_23_code 13 = .ok (.iload_n 2, 1) := by decide +kernel
theorem dd_As_emit_14 : decode prog_2_method_23_code 14 = .ok (.invokestatic 182, 3) := by decide +kernel
theorem dd_As_emit_17 : decode prog_2_method_23_code 17 = .ok (.istore_n 3, 1) := by decide +kernel
theorem dd_As_emit_18 : decode prog_2_method_23_code 18 = .ok (.aload_n 0, 1) := by decide +kernel
theorem dd_As_emit_19 : decode prog_2_method_23_code 19 = .ok (.bipush 8, 2) := by decide +kernel
theorem dd_As_emit_21 : decode prog_2_method_23_code 21 = .ok (.iload_n 1, 1) := by decide +kernel
theorem dd_As_emit_22 : decode prog_2_method_23_code 22 = .ok (.imul, 1) := by decide +kernel
theorem dd_As_emit_23 : decode prog_2_method_23_code 23 = .ok (.iload_n 3, 1) := by decide +kernel
theorem dd_As_emit_24 : decode prog_2_method_23_code 24 = .ok (.iadd, 1) := by decide +kernel
theorem dd_As_emit_25 : decode prog_2_method_23_code 25 = .ok (.invokevirtual 176, 3) := by decide +kernel
theorem dd_As_emit_28 : decode prog_2_method_23_code 28 = .ok (.aload_n 0, 1) := by decide +kernel
theorem dd_As_emit_29 : decode prog_2_method_23_code 29 = .ok (.iload_n 2, 1) := by decide +kernel
theorem dd_As_emit_30 : decode prog_2_method_23_code 30 = .ok (.sipush 255, 3) := by decide +kernel
theorem dd_As_emit_33 : decode prog_2_method_23_code 33 = .ok (.iand, 1) := by decide +kernel
theorem dd_As_emit_34 : decode prog_2_method_23_code 34 = .ok (.invokevirtual 176, 3) := by decide +kernel
theorem dd_As_emit_37 : decode prog_2_method_23_code 37 = .ok (.iload_n 3, 1) := by decide +kernel
theorem dd_As_emit_38 : decode prog_2_method_23_code 38 = .ok (.iconst 3, 1) := by decide +kernel
theorem dd_As_emit_39 : decode prog_2_method_23_code 39 = .ok (.if_icmp .eq (8), 3) := by decide +kernel
theorem dd_As_emit_42 : decode prog_2_method_23_code 42 = .ok (.iload_n 3, 1) := by decide +kernel
theorem dd_As_emit_43 : decode prog_2_method_23_code 43 = .ok (.iconst 5, 1) := by decide +kernel
theorem dd_As_emit_44 : decode prog_2_method_23_code 44 = .ok (.if_icmp .ne (8), 3) := by decide +kernel
theorem dd_As_emit_47 : decode prog_2_method_23_code 47 = .ok (.aload_n 0, 1) := by decide +kernel
theorem dd_As_emit_48 : decode prog_2_method_23_code 48 = .ok (.iconst 0, 1) := by decide +kernel
theorem dd_As_emit_49 : decode prog_2_method_23_code 49 = .ok (.invokevirtual 176, 3) := by decide +kernel
theorem dd_As_emit_52 : decode prog_2_method_23_code 52 = .ok (.aload_n 0, 1) := by decide +kernel
theorem dd_As_emit_53 : decode prog_2_method_23_code 53 = .ok (.aload_n 0, 1) := by decide +kernel
theorem dd_As_emit_54 : decode prog_2_method_23_code 54 = .ok (.iload_n 1, 1) := by decide +kernel
theorem dd_As_emit_55 : decode prog_2_method_23_code 55 = .ok (.iload_n 2, 1) := by decide +kernel
theorem dd_As_emit_56 : decode prog_2_method_23_code 56 = .ok (.invokevirtual 185, 3) := by decide +kernel
theorem dd_As_emit_59 : decode prog_2_method_23_code 59 = .ok (.putfield 93, 3) := by decide +kernel
theorem dd_As_emit_62 : decode prog_2_method_23_code 62 = .ok (.return_, 1) := by decide +kernel
theorem dd_As_formOf_0 : decode prog_2_method_24_code 0 = .ok (.iload_n 0, 1) := by decide +kernel
theorem dd_As_formOf_1 : decode prog_2_method_24_code 1 = .ok (.sipush 512, 3) := by decide +kernel
theorem dd_As_formOf_4 : decode prog_2_method_24_code 4 = .ok (.if_icmp .lt (16), 3) := by decide +kernel
theorem dd_As_formOf_7 : decode prog_2_method_24_code 7 = .ok (.iload_n 0, 1) := by decide +kernel
theorem dd_As_formOf_8 : decode prog_2_method_24_code 8 = .ok (.sipush 528, 3) := by decide +kernel
theorem dd_As_formOf_11 : decode prog_2_method_24_code 11 = .ok (.if_icmp .ge (7), 3) := by decide +kernel
theorem dd_As_formOf_14 : decode prog_2_method_24_code 14 = .ok (.iconst 4, 1) := by decide +kernel
theorem dd_As_formOf_15 : decode prog_2_method_24_code 15 = .ok (.goto (4), 3) := by decide +kernel
theorem dd_As_formOf_18 : decode prog_2_method_24_code 18 = .ok (.iconst 5, 1) := by decide +kernel
theorem dd_As_formOf_19 : decode prog_2_method_24_code 19 = .ok (.ireturn, 1) := by decide +kernel
theorem dd_As_formOf_20 : decode prog_2_method_24_code 20 = .ok (.iload_n 0, 1) := by decide +kernel
theorem dd_As_formOf_21 : decode prog_2_method_24_code 21 = .ok (.sipush 256, 3) := by decide +kernel
theorem dd_As_formOf_24 : decode prog_2_method_24_code 24 = .ok (.if_icmp .lt (5), 3) := by decide +kernel
theorem dd_As_formOf_27 : decode prog_2_method_24_code 27 = .ok (.iconst 1, 1) := by decide +kernel
theorem dd_As_formOf_28 : decode prog_2_method_24_code 28 = .ok (.ireturn, 1) := by decide +kernel
theorem dd_As_formOf_29 : decode prog_2_method_24_code 29 = .ok (.iload_n 0, 1) := by decide +kernel
theorem dd_As_formOf_30 : decode prog_2_method_24_code 30 = .ok (.bipush 16, 2) := by decide +kernel
theorem dd_As_formOf_32 : decode prog_2_method_24_code 32 = .ok (.if_icmp .ge (7), 3) := by decide +kernel
theorem dd_As_formOf_35 : decode prog_2_method_24_code 35 = .ok (.iconst 2, 1) := by decide +kernel
theorem dd_As_formOf_36 : decode prog_2_method_24_code 36 = .ok (.goto (4), 3) := by decide +kernel
theorem dd_As_formOf_39 : decode prog_2_method_24_code 39 = .ok (.iconst 3, 1) := by decide +kernel
theorem dd_As_formOf_40 : decode prog_2_method_24_code 40 = .ok (.ireturn, 1) := by decide +kernel
theorem dd_As_heldBehind_0 : decode prog_2_method_25_code 0 = .ok (.iload_n 1, 1) := by decide +kernel
theorem dd_As_heldBehind_1 : decode prog_2_method_25_code 1 = .ok (.tableswitch (99) (0) (8) #[51, 64, 80, 80, 80, 80, 80, 82, 82], 51) := by decide +kernel
theorem dd_As_heldBehind_52 : decode prog_2_method_25_code 52 = .ok (.iload_n 2, 1) := by decide +kernel
theorem dd_As_heldBehind_53 : decode prog_2_method_25_code 53 = .ok (.sipush 512, 3) := by decide +kernel
theorem dd_As_heldBehind_56 : decode prog_2_method_25_code 56 = .ok (.if_icmp .ge (7), 3) := by decide +kernel
theorem dd_As_heldBehind_59 : decode prog_2_method_25_code 59 = .ok (.iload_n 2, 1) := by decide +kernel
theorem dd_As_heldBehind_60 : decode prog_2_method_25_code 60 = .ok (.goto (4), 3) := by decide +kernel
theorem dd_As_heldBehind_63 : decode prog_2_method_25_code 63 = .ok (.iconst (-1), 1) := by decide +kernel
theorem dd_As_heldBehind_64 : decode prog_2_method_25_code 64 = .ok (.ireturn, 1) := by decide +kernel
theorem dd_As_heldBehind_65 : decode prog_2_method_25_code 65 = .ok (.iload_n 2, 1) := by decide +kernel
theorem dd_As_heldBehind_66 : decode prog_2_method_25_code 66 = .ok (.sipush 512, 3) := by decide +kernel
theorem dd_As_heldBehind_69 : decode prog_2_method_25_code 69 = .ok (.if_icmp .ge (7), 3) := by decide +kernel
theorem dd_As_heldBehind_72 : decode prog_2_method_25_code 72 = .ok (.iload_n 2, 1) := by decide +kernel
theorem dd_As_heldBehind_73 : decode prog_2_method_25_code 73 = .ok (.goto (7), 3) := by decide +kernel
theorem dd_As_heldBehind_76 : decode prog_2_method_25_code 76 = .ok (.aload_n 0, 1) := by decide +kernel
theorem dd_As_heldBehind_77 : decode prog_2_method_25_code 77 = .ok (.getfield 93, 3) := by decide +kernel
theorem dd_As_heldBehind_80 : decode prog_2_method_25_code 80 = .ok (.ireturn, 1) := by decide +kernel
theorem dd_As_heldBehind_81 : decode prog_2_method_25_code 81 = .ok (.iconst (-1), 1) := by decide +kernel
theorem dd_As_heldBehind_82 : decode prog_2_method_25_code 82 = .ok (.ireturn, 1) := by decide +kernel
theorem dd_As_heldBehind_83 : decode prog_2_method_25_code 83 = .ok (.iload_n 2, 1) := by decide +kernel
theorem dd_As_heldBehind_84 : decode prog_2_method_25_code 84 = .ok (.aload_n 0, 1) := by decide +kernel
theorem dd_As_heldBehind_85 : decode prog_2_method_25_code 85 = .ok (.getfield 93, 3) := by decide +kernel
theorem dd_As_heldBehind_88 : decode prog_2_method_25_code 88 = .ok (.if_icmp .ne (7), 3) := by decide +kernel
theorem dd_As_heldBehind_91 : decode prog_2_method_25_code 91 = .ok (.iconst (-1), 1) := by decide +kernel
theorem dd_As_heldBehind_92 : decode prog_2_method_25_code 92 = .ok (.goto (7), 3) := by decide +kernel
theorem dd_As_heldBehind_95 : decode prog_2_method_25_code 95 = .ok (.aload_n 0, 1) := by decide +kernel
theorem dd_As_heldBehind_96 : decode prog_2_method_25_code 96 = .ok (.getfield 93, 3) := by decide +kernel
theorem dd_As_heldBehind_99 : decode prog_2_method_25_code 99 = .ok (.ireturn, 1) := by decide +kernel
theorem dd_As_heldBehind_100 : decode prog_2_method_25_code 100 = .ok (.aload_n 0, 1) := by decide +kernel
theorem dd_As_heldBehind_101 : decode prog_2_method_25_code 101 = .ok (.getfield 93, 3) := by decide +kernel
theorem dd_As_heldBehind_104 : decode prog_2_method_25_code 104 = .ok (.ireturn, 1) := by decide +kernel
theorem dd_As_emitAlone_0 : decode prog_2_method_26_code 0 = .ok (.aload_n 0, 1) := by decide +kernel
theorem dd_As_emitAlone_1 : decode prog_2_method_26_code 1 = .ok (.bipush 8, 2) := by decide +kernel
theorem dd_As_emitAlone_3 : decode prog_2_method_26_code 3 = .ok (.iload_n 1, 1) := by decide +kernel
theorem dd_As_emitAlone_4 : decode prog_2_method_26_code 4 = .ok (.imul, 1) := by decide +kernel
theorem dd_As_emitAlone_5 : decode prog_2_method_26_code 5 = .ok (.iconst 0, 1) := by decide +kernel
theorem dd_As_emitAlone_6 : decode prog_2_method_26_code 6 = .ok (.iadd, 1) := by decide +kernel
theorem dd_As_emitAlone_7 : decode prog_2_method_26_code 7 = .ok (.invokevirtual 176, 3) := by decide +kernel
theorem dd_As_emitAlone_10 : decode prog_2_method_26_code 10 = .ok (.return_, 1) := by decide +kernel
theorem dd_As_emitJump_0 : decode prog_2_method_27_code 0 = .ok (.aload_n 0, 1) := by decide +kernel
theorem dd_As_emitJump_1 : decode prog_2_method_27_code 1 = .ok (.bipush 8, 2) := by decide +kernel
theorem dd_As_emitJump_3 : decode prog_2_method_27_code 3 = .ok (.iload_n 1, 1) := by decide +kernel
theorem dd_As_emitJump_4 : decode prog_2_method_27_code 4 = .ok (.imul, 1) := by decide +kernel
theorem dd_As_emitJump_5 : decode prog_2_method_27_code 5 = .ok (.bipush 7, 2) := by decide +kernel
theorem dd_As_emitJump_7 : decode prog_2_method_27_code 7 = .ok (.iadd, 1) := by decide +kernel
theorem dd_As_emitJump_8 : decode prog_2_method_27_code 8 = .ok (.invokevirtual 176, 3) := by decide +kernel
theorem dd_As_emitJump_11 : decode prog_2_method_27_code 11 = .ok (.aload_n 0, 1) := by decide +kernel
theorem dd_As_emitJump_12 : decode prog_2_method_27_code 12 = .ok (.iload_n 2, 1) := by decide +kernel
theorem dd_As_emitJump_13 : decode prog_2_method_27_code 13 = .ok (.sipush 255, 3) := by decide +kernel
theorem dd_As_emitJump_16 : decode prog_2_method_27_code 16 = .ok (.iand, 1) := by decide +kernel
theorem dd_As_emitJump_17 : decode prog_2_method_27_code 17 = .ok (.invokevirtual 176, 3) := by decide +kernel
theorem dd_As_emitJump_20 : decode prog_2_method_27_code 20 = .ok (.aload_n 0, 1) := by decide +kernel
theorem dd_As_emitJump_21 : decode prog_2_method_27_code 21 = .ok (.iload_n 2, 1) := by decide +kernel
theorem dd_As_emitJump_22 : decode prog_2_method_27_code 22 = .ok (.bipush 8, 2) := by decide +kernel
theorem dd_As_emitJump_24 : decode prog_2_method_27_code 24 = .ok (.ishr, 1) := by decide +kernel
theorem dd_As_emitJump_25 : decode prog_2_method_27_code 25 = .ok (.invokevirtual 176, 3) := by decide +kernel
theorem dd_As_emitJump_28 : decode prog_2_method_27_code 28 = .ok (.return_, 1) := by decide +kernel
theorem dd_As_emitBranch_0 : decode prog_2_method_28_code 0 = .ok (.aload_n 0, 1) := by decide +kernel
theorem dd_As_emitBranch_1 : decode prog_2_method_28_code 1 = .ok (.getfield 18, 3) := by decide +kernel
theorem dd_As_emitBranch_4 : decode prog_2_method_28_code 4 = .ok (.aload_n 0, 1) := by decide +kernel
theorem dd_As_emitBranch_5 : decode prog_2_method_28_code 5 = .ok (.getfield 31, 3) := by decide +kernel
theorem dd_As_emitBranch_8 : decode prog_2_method_28_code 8 = .ok (.iload_n 2, 1) := by decide +kernel
theorem dd_As_emitBranch_9 : decode prog_2_method_28_code 9 = .ok (.invokevirtual 65, 3) := by decide +kernel
theorem dd_As_emitBranch_12 : decode prog_2_method_28_code 12 = .ok (.iaload, 1) := by decide +kernel
theorem dd_As_emitBranch_13 : decode prog_2_method_28_code 13 = .ok (.istore_n 3, 1) := by decide +kernel
theorem dd_As_emitBranch_14 : decode prog_2_method_28_code 14 = .ok (.aload_n 0, 1) := by decide +kernel
theorem dd_As_emitBranch_15 : decode prog_2_method_28_code 15 = .ok (.getfield 21, 3) := by decide +kernel
theorem dd_As_emitBranch_18 : decode prog_2_method_28_code 18 = .ok (.iload_n 2, 1) := by decide +kernel
theorem dd_As_emitBranch_19 : decode prog_2_method_28_code 19 = .ok (.aload_n 0, 1) := by decide +kernel
theorem dd_As_emitBranch_20 : decode prog_2_method_28_code 20 = .ok (.getfield 87, 3) := by decide +kernel
theorem dd_As_emitBranch_23 : decode prog_2_method_28_code 23 = .ok (.iastore, 1) := by decide +kernel
theorem dd_As_emitBranch_24 : decode prog_2_method_28_code 24 = .ok (.aload_n 0, 1) := by decide +kernel
theorem dd_As_emitBranch_25 : decode prog_2_method_28_code 25 = .ok (.getfield 28, 3) := by decide +kernel
theorem dd_As_emitBranch_28 : decode prog_2_method_28_code 28 = .ok (.iload_n 2, 1) := by decide +kernel
theorem dd_As_emitBranch_29 : decode prog_2_method_28_code 29 = .ok (.baload, 1) := by decide +kernel
theorem dd_As_emitBranch_30 : decode prog_2_method_28_code 30 = .ok (.ifCond .eq (32), 3) := by decide +kernel
theorem dd_As_emitBranch_33 : decode prog_2_method_28_code 33 = .ok (.aload_n 0, 1) := by decide +kernel
theorem dd_As_emitBranch_34 : decode prog_2_method_28_code 34 = .ok (.bipush 8, 2) := by decide +kernel
theorem dd_As_emitBranch_36 : decode prog_2_method_28_code 36 = .ok (.iload_n 1, 1) := by decide +kernel
theorem dd_As_emitBranch_37 : decode prog_2_method_28_code 37 = .ok (.invokestatic 188, 3) := by decide +kernel
theorem dd_As_emitBranch_40 : decode prog_2_method_28_code 40 = .ok (.imul, 1) := by decide +kernel
theorem dd_As_emitBranch_41 : decode prog_2_method_28_code 41 = .ok (.bipush 6, 2) := by decide +kernel
theorem dd_As_emitBranch_43 : decode prog_2_method_28_code 43 = .ok (.iadd, 1) := by decide +kernel
theorem dd_As_emitBranch_44 : decode prog_2_method_28_code 44 = .ok (.invokevirtual 176, 3) := by decide +kernel
theorem dd_As_emitBranch_47 : decode prog_2_method_28_code 47 = .ok (.aload_n 0, 1) := by decide +kernel
theorem dd_As_emitBranch_48 : decode prog_2_method_28_code 48 = .ok (.iconst 3, 1) := by decide +kernel
theorem dd_As_emitBranch_49 : decode prog_2_method_28_code 49 = .ok (.invokevirtual 176, 3) := by decide +kernel
theorem dd_As_emitBranch_52 : decode prog_2_method_28_code 52 = .ok (.aload_n 0, 1) := by decide +kernel
theorem dd_As_emitBranch_53 : decode prog_2_method_28_code 53 = .ok (.bipush 18, 2) := by decide +kernel
theorem dd_As_emitBranch_55 : decode prog_2_method_28_code 55 = .ok (.iload_n 3, 1) := by decide +kernel
theorem dd_As_emitBranch_56 : decode prog_2_method_28_code 56 = .ok (.invokevirtual 135, 3) := by decide +kernel
theorem dd_As_emitBranch_59 : decode prog_2_method_28_code 59 = .ok (.goto (32), 3) := by decide +kernel
theorem dd_As_emitBranch_62 : decode prog_2_method_28_code 62 = .ok (.aload_n 0, 1) := by decide +kernel
theorem dd_As_emitBranch_63 : decode prog_2_method_28_code 63 = .ok (.bipush 8, 2) := by decide +kernel
theorem dd_As_emitBranch_65 : decode prog_2_method_28_code 65 = .ok (.iload_n 1, 1) := by decide +kernel
theorem dd_As_emitBranch_66 : decode prog_2_method_28_code 66 = .ok (.imul, 1) := by decide +kernel
theorem dd_As_emitBranch_67 : decode prog_2_method_28_code 67 = .ok (.bipush 6, 2) := by decide +kernel
theorem dd_As_emitBranch_69 : decode prog_2_method_28_code 69 = .ok (.iadd, 1) := by decide +kernel
theorem dd_As_emitBranch_70 : decode prog_2_method_28_code 70 = .ok (.invokevirtual 176, 3) := by decide +kernel
theorem dd_As_emitBranch_73 : decode prog_2_method_28_code 73 = .ok (.aload_n 0, 1) := by decide +kernel
theorem dd_As_emitBranch_74 : decode prog_2_method_28_code 74 = .ok (.iload_n 3, 1) := by decide +kernel
theorem dd_As_emitBranch_75 : decode prog_2_method_28_code 75 = .ok (.aload_n 0, 1) := by decide +kernel
theorem dd_As_emitBranch_76 : decode prog_2_method_28_code 76 = .ok (.getfield 21, 3) := by decide +kernel
theorem dd_As_emitBranch_79 : decode prog_2_method_28_code 79 = .ok (.iload_n 2, 1) := by decide +kernel
theorem dd_As_emitBranch_80 : decode prog_2_method_28_code 80 = .ok (.iaload, 1) := by decide +kernel
theorem dd_As_emitBranch_81 : decode prog_2_method_28_code 81 = .ok (.iconst 2, 1) := by decide +kernel
theorem dd_As_emitBranch_82 : decode prog_2_method_28_code 82 = .ok (.iadd, 1) := by decide +kernel
theorem dd_As_emitBranch_83 : decode prog_2_method_28_code 83 = .ok (.isub, 1) := by decide +kernel
theorem dd_As_emitBranch_84 : decode prog_2_method_28_code 84 = .ok (.sipush 255, 3) := by decide +kernel
theorem dd_As_emitBranch_87 : decode prog_2_method_28_code 87 = .ok (.iand, 1) := by decide +kernel
theorem dd_As_emitBranch_88 : decode prog_2_method_28_code 88 = .ok (.invokevirtual 176, 3) := by decide +kernel
theorem dd_As_emitBranch_91 : decode prog_2_method_28_code 91 = .ok (.return_, 1) := by decide +kernel
theorem dd_As_opposite_0 : decode prog_2_method_29_code 0 = .ok (.iload_n 0, 1) := by decide +kernel
theorem dd_As_opposite_1 : decode prog_2_method_29_code 1 = .ok (.bipush 14, 2) := by decide +kernel
theorem dd_As_opposite_3 : decode prog_2_method_29_code 3 = .ok (.if_icmp .ne (8), 3) := by decide +kernel
theorem dd_As_opposite_6 : decode prog_2_method_29_code 6 = .ok (.bipush 15, 2) := by decide +kernel
theorem dd_As_opposite_8 : decode prog_2_method_29_code 8 = .ok (.goto (5), 3) := by decide +kernel
theorem dd_As_opposite_11 : decode prog_2_method_29_code 11 = .ok (.bipush 17, 2) := by decide +kernel
theorem dd_As_opposite_13 : decode prog_2_method_29_code 13 = .ok (.ireturn, 1) := by decide +kernel
theorem dd_As_put_0 : decode prog_2_method_30_code 0 = .ok (.aload_n 0, 1) := by decide +kernel
theorem dd_As_put_1 : decode prog_2_method_30_code 1 = .ok (.getfield 87, 3) := by decide +kernel
theorem dd_As_put_4 : decode prog_2_method_30_code 4 = .ok (.sipush 500, 3) := by decide +kernel
theorem dd_As_put_7 : decode prog_2_method_30_code 7 = .ok (.if_icmp .ge (13), 3) := by decide +kernel
theorem dd_As_put_10 : decode prog_2_method_30_code 10 = .ok (.aload_n 0, 1) := by decide +kernel
theorem dd_As_put_11 : decode prog_2_method_30_code 11 = .ok (.getfield 9, 3) := by decide +kernel
theorem dd_As_put_14 : decode prog_2_method_30_code 14 = .ok (.aload_n 0, 1) := by decide +kernel
theorem dd_As_put_15 : decode prog_2_method_30_code 15 = .ok (.getfield 87, 3) := by decide +kernel
theorem dd_As_put_18 : decode prog_2_method_30_code 18 = .ok (.iload_n 1, 1) := by decide +kernel
theorem dd_As_put_19 : decode prog_2_method_30_code 19 = .ok (.iastore, 1) := by decide +kernel
theorem dd_As_put_20 : decode prog_2_method_30_code 20 = .ok (.aload_n 0, 1) := by decide +kernel
theorem dd_As_put_21 : decode prog_2_method_30_code 21 = .ok (.dup, 1) := by decide +kernel
theorem dd_As_put_22 : decode prog_2_method_30_code 22 = .ok (.getfield 87, 3) := by decide +kernel
theorem dd_As_put_25 : decode prog_2_method_30_code 25 = .ok (.iconst 1, 1) := by decide +kernel
theorem dd_As_put_26 : decode prog_2_method_30_code 26 = .ok (.iadd, 1) := by decide +kernel
theorem dd_As_put_27 : decode prog_2_method_30_code 27 = .ok (.putfield 87, 3) := by decide +kernel
theorem dd_As_put_30 : decode prog_2_method_30_code 30 = .ok (.return_, 1) := by decide +kernel
