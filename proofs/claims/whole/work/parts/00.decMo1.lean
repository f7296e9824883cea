theorem dd_Mo_with_0 : decode prog_7_method_21_code 0 = .ok (.aload_n 0, 1) := by decide +kernel
theorem dd_Mo_with_1 : decode prog_7_method_21_code 1 = .ok (.dup, 1) := by decide +kernel
theorem dd_Mo_with_2 : decode prog_7_method_21_code 2 = .ok (.getfield 116, 3) := by decide +kernel
theorem dd_Mo_with_5 : decode prog_7_method_21_code 5 = .ok (.iconst 1, 1) := by decide +kernel
theorem dd_Mo_with_6 : decode prog_7_method_21_code 6 = .ok (.iadd, 1) := by decide +kernel
theorem dd_Mo_with_7 : decode prog_7_method_21_code 7 = .ok (.putfield 116, 3) := by decide +kernel
theorem dd_Mo_with_10 : decode prog_7_method_21_code 10 = .ok (.iload_n 2, 1) := by decide +kernel
theorem dd_Mo_with_11 : decode prog_7_method_21_code 11 = .ok (.sipush 256, 3) := by decide +kernel
theorem dd_Mo_with_14 : decode prog_7_method_21_code 14 = .ok (.if_icmp .lt (21), 3) := by decide +kernel
theorem dd_Mo_with_17 : decode prog_7_method_21_code 17 = .ok (.aload_n 0, 1) := by decide +kernel
theorem dd_Mo_with_18 : decode prog_7_method_21_code 18 = .ok (.bipush 8, 2) := by decide +kernel
theorem dd_Mo_with_20 : decode prog_7_method_21_code 20 = .ok (.iload_n 1, 1) := by decide +kernel
theorem dd_Mo_with_21 : decode prog_7_method_21_code 21 = .ok (.imul, 1) := by decide +kernel
theorem dd_Mo_with_22 : decode prog_7_method_21_code 22 = .ok (.iconst 1, 1) := by decide +kernel
theorem dd_Mo_with_23 : decode prog_7_method_21_code 23 = .ok (.iadd, 1) := by decide +kernel
theorem dd_Mo_with_24 : decode prog_7_method_21_code 24 = .ok (.invokevirtual 112, 3) := by decide +kernel
theorem dd_Mo_with_27 : decode prog_7_method_21_code 27 = .ok (.aload_n 0, 1) := by decide +kernel
theorem dd_Mo_with_28 : decode prog_7_method_21_code 28 = .ok (.iload_n 2, 1) := by decide +kernel
theorem dd_Mo_with_29 : decode prog_7_method_21_code 29 = .ok (.invokevirtual 112, 3) := by decide +kernel
theorem dd_Mo_with_32 : decode prog_7_method_21_code 32 = .ok (.goto (39), 3) := by decide +kernel
theorem dd_Mo_with_35 : decode prog_7_method_21_code 35 = .ok (.aload_n 0, 1) := by decide +kernel
theorem dd_Mo_with_36 : decode prog_7_method_21_code 36 = .ok (.bipush 8, 2) := by decide +kernel
theorem dd_Mo_with_38 : decode prog_7_method_21_code 38 = .ok (.iload_n 1, 1) := by decide +kernel
theorem dd_Mo_with_39 : decode prog_7_method_21_code 39 = .ok (.imul, 1) := by decide +kernel
theorem dd_Mo_with_40 : decode prog_7_method_21_code 40 = .ok (.iload_n 2, 1) := by decide +kernel
theorem dd_Mo_with_41 : decode prog_7_method_21_code 41 = .ok (.bipush 16, 2) := by decide +kernel
theorem dd_Mo_with_43 : decode prog_7_method_21_code 43 = .ok (.if_icmp .ge (7), 3) := by decide +kernel
theorem dd_Mo_with_46 : decode prog_7_method_21_code 46 = .ok (.iconst 2, 1) := by decide +kernel
theorem dd_Mo_with_47 : decode prog_7_method_21_code 47 = .ok (.goto (4), 3) := by decide +kernel
theorem dd_Mo_with_50 : decode prog_7_method_21_code 50 = .ok (.iconst 3, 1) := by decide +kernel
theorem dd_Mo_with_51 : decode prog_7_method_21_code 51 = .ok (.iadd, 1) := by decide +kernel
theorem dd_Mo_with_52 : decode prog_7_method_21_code 52 = .ok (.invokevirtual 112, 3) := by decide +kernel
theorem dd_Mo_with_55 : decode prog_7_method_21_code 55 = .ok (.aload_n 0, 1) := by decide +kernel
theorem dd_Mo_with_56 : decode prog_7_method_21_code 56 = .ok (.iload_n 2, 1) := by decide +kernel
theorem dd_Mo_with_57 : decode prog_7_method_21_code 57 = .ok (.invokevirtual 112, 3) := by decide +kernel
theorem dd_Mo_with_60 : decode prog_7_method_21_code 60 = .ok (.iload_n 2, 1) := by decide +kernel
theorem dd_Mo_with_61 : decode prog_7_method_21_code 61 = .ok (.bipush 16, 2) := by decide +kernel
theorem dd_Mo_with_63 : decode prog_7_method_21_code 63 = .ok (.if_icmp .lt (8), 3) := by decide +kernel
theorem dd_Mo_with_66 : decode prog_7_method_21_code 66 = .ok (.aload_n 0, 1) := by decide +kernel
theorem dd_Mo_with_67 : decode prog_7_method_21_code 67 = .ok (.iconst 0, 1) := by decide +kernel
theorem dd_Mo_with_68 : decode prog_7_method_21_code 68 = .ok (.invokevirtual 112, 3) := by decide +kernel
theorem dd_Mo_with_71 : decode prog_7_method_21_code 71 = .ok (.iload_n 1, 1) := by decide +kernel
theorem dd_Mo_with_72 : decode prog_7_method_21_code 72 = .ok (.ifCond .eq (8), 3) := by decide +kernel
theorem dd_Mo_with_75 : decode prog_7_method_21_code 75 = .ok (.iload_n 1, 1) := by decide +kernel
theorem dd_Mo_with_76 : decode prog_7_method_21_code 76 = .ok (.iconst 1, 1) := by decide +kernel
theorem dd_Mo_with_77 : decode prog_7_method_21_code 77 = .ok (.if_icmp .ne (11), 3) := by decide +kernel
theorem dd_Mo_with_80 : decode prog_7_method_21_code 80 = .ok (.aload_n 0, 1) := by decide +kernel
theorem dd_Mo_with_81 : decode prog_7_method_21_code 81 = .ok (.iload_n 2, 1) := by decide +kernel
theorem dd_Mo_with_82 : decode prog_7_method_21_code 82 = .ok (.putfield 119, 3) := by decide +kernel
theorem dd_Mo_with_85 : decode prog_7_method_21_code 85 = .ok (.goto (39), 3) := by decide +kernel
theorem dd_Mo_with_88 : decode prog_7_method_21_code 88 = .ok (.iload_n 1, 1) := by decide +kernel
theorem dd_Mo_with_89 : decode prog_7_method_21_code 89 = .ok (.iconst 2, 1) := by decide +kernel
theorem dd_Mo_with_90 : decode prog_7_method_21_code 90 = .ok (.if_icmp .lt (9), 3) := by decide +kernel
theorem dd_Mo_with_93 : decode prog_7_method_21_code 93 = .ok (.iload_n 1, 1) := by decide +kernel
theorem dd_Mo_with_94 : decode prog_7_method_21_code 94 = .ok (.bipush 6, 2) := by decide +kernel
theorem dd_Mo_with_96 : decode prog_7_method_21_code 96 = .ok (.if_icmp .le (23), 3) := by decide +kernel
theorem dd_Mo_with_99 : decode prog_7_method_21_code 99 = .ok (.iload_n 1, 1) := by decide +kernel
theorem dd_Mo_with_100 : decode prog_7_method_21_code 100 = .ok (.bipush 7, 2) := by decide +kernel
theorem dd_Mo_with_102 : decode prog_7_method_21_code 102 = .ok (.if_icmp .eq (9), 3) := by decide +kernel
theorem dd_Mo_with_105 : decode prog_7_method_21_code 105 = .ok (.iload_n 1, 1) := by decide +kernel
theorem dd_Mo_with_106 : decode prog_7_method_21_code 106 = .ok (.bipush 8, 2) := by decide +kernel
theorem dd_Mo_with_108 : decode prog_7_method_21_code 108 = .ok (.if_icmp .ne (16), 3) := by decide +kernel
theorem dd_Mo_with_111 : decode prog_7_method_21_code 111 = .ok (.aload_n 0, 1) := by decide +kernel
theorem dd_Mo_with_112 : decode prog_7_method_21_code 112 = .ok (.getfield 119, 3) := by decide +kernel
theorem dd_Mo_with_115 : decode prog_7_method_21_code 115 = .ok (.iload_n 2, 1) := by decide +kernel
theorem dd_Mo_with_116 : decode prog_7_method_21_code 116 = .ok (.if_icmp .ne (8), 3) := by decide +kernel
theorem dd_Mo_with_119 : decode prog_7_method_21_code 119 = .ok (.aload_n 0, 1) := by decide +kernel
theorem dd_Mo_with_120 : decode prog_7_method_21_code 120 = .ok (.iconst (-1), 1) := by decide +kernel
theorem dd_Mo_with_121 : decode prog_7_method_21_code 121 = .ok (.putfield 119, 3) := by decide +kernel
theorem dd_Mo_with_124 : decode prog_7_method_21_code 124 = .ok (.return_, 1) := by decide +kernel
theorem dd_Mo_indexed_0 : decode prog_7_method_22_code 0 = .ok (.aload_n 0, 1) := by decide +kernel
theorem dd_Mo_indexed_1 : decode prog_7_method_22_code 1 = .ok (.dup, 1) := by decide +kernel
theorem dd_Mo_indexed_2 : decode prog_7_method_22_code 2 = .ok (.getfield 116, 3) := by decide +kernel
theorem dd_Mo_indexed_5 : decode prog_7_method_22_code 5 = .ok (.iconst 1, 1) := by decide +kernel
theorem dd_Mo_indexed_6 : decode prog_7_method_22_code 6 = .ok (.iadd, 1) := by decide +kernel
theorem dd_Mo_indexed_7 : decode prog_7_method_22_code 7 = .ok (.putfield 116, 3) := by decide +kernel
theorem dd_Mo_indexed_10 : decode prog_7_method_22_code 10 = .ok (.aload_n 0, 1) := by decide +kernel
theorem dd_Mo_indexed_11 : decode prog_7_method_22_code 11 = .ok (.bipush 8, 2) := by decide +kernel
theorem dd_Mo_indexed_13 : decode prog_7_method_22_code 13 = .ok (.iload_n 1, 1) := by decide +kernel
theorem dd_Mo_indexed_14 : decode prog_7_method_22_code 14 = .ok (.imul, 1) := by decide +kernel
theorem dd_Mo_indexed_15 : decode prog_7_method_22_code 15 = .ok (.iload_n 2, 1) := by decide +kernel
theorem dd_Mo_indexed_16 : decode prog_7_method_22_code 16 = .ok (.bipush 16, 2) := by decide +kernel
theorem dd_Mo_indexed_18 : decode prog_7_method_22_code 18 = .ok (.if_icmp .ge (7), 3) := by decide +kernel
theorem dd_Mo_indexed_21 : decode prog_7_method_22_code 21 = .ok (.iconst 4, 1) := by decide +kernel
theorem dd_Mo_indexed_22 : decode prog_7_method_22_code 22 = .ok (.goto (4), 3) := by decide +kernel
theorem dd_Mo_indexed_25 : decode prog_7_method_22_code 25 = .ok (.iconst 5, 1) := by decide +kernel
theorem dd_Mo_indexed_26 : decode prog_7_method_22_code 26 = .ok (.iadd, 1) := by decide +kernel
theorem dd_Mo_indexed_27 : decode prog_7_method_22_code 27 = .ok (.invokevirtual 112, 3) := by decide +kernel
theorem dd_Mo_indexed_30 : decode prog_7_method_22_code 30 = .ok (.aload_n 0, 1) := by decide +kernel
theorem dd_Mo_indexed_31 : decode prog_7_method_22_code 31 = .ok (.iload_n 2, 1) := by decide +kernel
theorem dd_Mo_indexed_32 : decode prog_7_method_22_code 32 = .ok (.invokevirtual 112, 3) := by decide +kernel
theorem dd_Mo_indexed_35 : decode prog_7_method_22_code 35 = .ok (.iload_n 2, 1) := by decide +kernel
theorem dd_Mo_indexed_36 : decode prog_7_method_22_code 36 = .ok (.bipush 16, 2) := by decide +kernel
theorem dd_Mo_indexed_38 : decode prog_7_method_22_code 38 = .ok (.if_icmp .lt (8), 3) := by decide +kernel
theorem dd_Mo_indexed_41 : decode prog_7_method_22_code 41 = .ok (.aload_n 0, 1) := by decide +kernel
theorem dd_Mo_indexed_42 : decode prog_7_method_22_code 42 = .ok (.iconst 0, 1) := by decide +kernel
theorem dd_Mo_indexed_43 : decode prog_7_method_22_code 43 = .ok (.invokevirtual 112, 3) := by decide +kernel
theorem dd_Mo_indexed_46 : decode prog_7_method_22_code 46 = .ok (.iload_n 1, 1) := by decide +kernel
theorem dd_Mo_indexed_47 : decode prog_7_method_22_code 47 = .ok (.ifCond .ne (8), 3) := by decide +kernel
theorem dd_Mo_indexed_50 : decode prog_7_method_22_code 50 = .ok (.aload_n 0, 1) := by decide +kernel
theorem dd_Mo_indexed_51 : decode prog_7_method_22_code 51 = .ok (.iconst (-1), 1) := by decide +kernel
theorem dd_Mo_indexed_52 : decode prog_7_method_22_code 52 = .ok (.putfield 119, 3) := by decide +kernel
theorem dd_Mo_indexed_55 : decode prog_7_method_22_code 55 = .ok (.return_, 1) := by decide +kernel
theorem dd_Mo_to_0 : decode prog_7_method_23_code 0 = .ok (.aload_n 0, 1) := by decide +kernel
theorem dd_Mo_to_1 : decode prog_7_method_23_code 1 = .ok (.dup, 1) := by decide +kernel
theorem dd_Mo_to_2 : decode prog_7_method_23_code 2 = .ok (.getfield 116, 3) := by decide +kernel
theorem dd_Mo_to_5 : decode prog_7_method_23_code 5 = .ok (.iconst 1, 1) := by decide +kernel
theorem dd_Mo_to_6 : decode prog_7_method_23_code 6 = .ok (.iadd, 1) := by decide +kernel
theorem dd_Mo_to_7 : decode prog_7_method_23_code 7 = .ok (.putfield 116, 3) := by decide +kernel
theorem dd_Mo_to_10 : decode prog_7_method_23_code 10 = .ok (.aload_n 0, 1) := by decide +kernel
theorem dd_Mo_to_11 : decode prog_7_method_23_code 11 = .ok (.bipush 8, 2) := by decide +kernel
theorem dd_Mo_to_13 : decode prog_7_method_23_code 13 = .ok (.iload_n 1, 1) := by decide +kernel
theorem dd_Mo_to_14 : decode prog_7_method_23_code 14 = .ok (.imul, 1) := by decide +kernel
theorem dd_Mo_to_15 : decode prog_7_method_23_code 15 = .ok (.bipush 7, 2) := by decide +kernel
theorem dd_Mo_to_17 : decode prog_7_method_23_code 17 = .ok (.iadd, 1) := by decide +kernel
theorem dd_Mo_to_18 : decode prog_7_method_23_code 18 = .ok (.invokevirtual 112, 3) := by decide +kernel
theorem dd_Mo_to_21 : decode prog_7_method_23_code 21 = .ok (.aload_n 0, 1) := by decide +kernel
theorem dd_Mo_to_22 : decode prog_7_method_23_code 22 = .ok (.iload_n 2, 1) := by decide +kernel
theorem dd_Mo_to_23 : decode prog_7_method_23_code 23 = .ok (.invokevirtual 112, 3) := by decide +kernel
theorem dd_Mo_to_26 : decode prog_7_method_23_code 26 = .ok (.aload_n 0, 1) := by decide +kernel
theorem dd_Mo_to_27 : decode prog_7_method_23_code 27 = .ok (.iload_n 2, 1) := by decide +kernel
theorem dd_Mo_to_28 : decode prog_7_method_23_code 28 = .ok (.bipush 8, 2) := by decide +kernel
theorem dd_Mo_to_30 : decode prog_7_method_23_code 30 = .ok (.ishr, 1) := by decide +kernel
theorem dd_Mo_to_31 : decode prog_7_method_23_code 31 = .ok (.invokevirtual 112, 3) := by decide +kernel
theorem dd_Mo_to_34 : decode prog_7_method_23_code 34 = .ok (.iload_n 1, 1) := by decide +kernel
theorem dd_Mo_to_35 : decode prog_7_method_23_code 35 = .ok (.bipush 19, 2) := by decide +kernel
theorem dd_Mo_to_37 : decode prog_7_method_23_code 37 = .ok (.if_icmp .ne (8), 3) := by decide +kernel
theorem dd_Mo_to_40 : decode prog_7_method_23_code 40 = .ok (.aload_n 0, 1) := by decide +kernel
theorem dd_Mo_to_41 : decode prog_7_method_23_code 41 = .ok (.iconst (-1), 1) := by decide +kernel
theorem dd_Mo_to_42 : decode prog_7_method_23_code 42 = .ok (.putfield 119, 3) := by decide +kernel
theorem dd_Mo_to_45 : decode prog_7_method_23_code 45 = .ok (.return_, 1) := by decide +kernel
theorem dd_Mo_load_0 : decode prog_7_method_24_code 0 = .ok (.aload_n 0, 1) := by decide +kernel
theorem dd_Mo_load_1 : decode prog_7_method_24_code 1 = .ok (.getfield 119, 3) := by decide +kernel
theorem dd_Mo_load_4 : decode prog_7_method_24_code 4 = .ok (.iload_n 1, 1) := by decide +kernel
theorem dd_Mo_load_5 : decode prog_7_method_24_code 5 = .ok (.if_icmp .eq (9), 3) := by decide +kernel
theorem dd_Mo_load_8 : decode prog_7_method_24_code 8 = .ok (.aload_n 0, 1) := by decide +kernel
theorem dd_Mo_load_9 : decode prog_7_method_24_code 9 = .ok (.iconst 0, 1) := by decide +kernel
theorem dd_Mo_load_10 : decode prog_7_method_24_code 10 = .ok (.iload_n 1, 1) := by decide +kernel
theorem dd_Mo_load_11 : decode prog_7_method_24_code 11 = .ok (.invokevirtual 122, 3) := by decide +kernel
theorem dd_Mo_load_14 : decode prog_7_method_24_code 14 = .ok (.return_, 1) := by decide +kernel
theorem dd_Mo_move_0 : decode prog_7_method_25_code 0 = .ok (.aload_n 0, 1) := by decide +kernel
theorem dd_Mo_move_1 : decode prog_7_method_25_code 1 = .ok (.iload_n 1, 1) := by decide +kernel
theorem dd_Mo_move_2 : decode prog_7_method_25_code 2 = .ok (.invokevirtual 126, 3) := by decide +kernel
theorem dd_Mo_move_5 : decode prog_7_method_25_code 5 = .ok (.aload_n 0, 1) := by decide +kernel
theorem dd_Mo_move_6 : decode prog_7_method_25_code 6 = .ok (.iconst 1, 1) := by decide +kernel
theorem dd_Mo_move_7 : decode prog_7_method_25_code 7 = .ok (.iload_n 2, 1) := by decide +kernel
theorem dd_Mo_move_8 : decode prog_7_method_25_code 8 = .ok (.invokevirtual 122, 3) := by decide +kernel
theorem dd_Mo_move_11 : decode prog_7_method_25_code 11 = .ok (.return_, 1) := by decide +kernel
theorem dd_Mo_branch_0 : decode prog_7_method_26_code 0 = .ok (.iload_n 1, 1) := by decide +kernel
theorem dd_Mo_branch_1 : decode prog_7_method_26_code 1 = .ok (.bipush 24, 2) := by decide +kernel
theorem dd_Mo_branch_3 : decode prog_7_method_26_code 3 = .ok (.idiv, 1) := by decide +kernel
theorem dd_Mo_branch_4 : decode prog_7_method_26_code 4 = .ok (.istore_n 3, 1) := by decide +kernel
theorem dd_Mo_branch_5 : decode prog_7_method_26_code 5 = .ok (.aload_n 0, 1) := by decide +kernel
theorem dd_Mo_branch_6 : decode prog_7_method_26_code 6 = .ok (.getfield 41, 3) := by decide +kernel
theorem dd_Mo_branch_9 : decode prog_7_method_26_code 9 = .ok (.bipush 24, 2) := by decide +kernel
theorem dd_Mo_branch_11 : decode prog_7_method_26_code 11 = .ok (.iload_n 3, 1) := by decide +kernel
theorem dd_Mo_branch_12 : decode prog_7_method_26_code 12 = .ok (.imul, 1) := by decide +kernel
theorem dd_Mo_branch_13 : decode prog_7_method_26_code 13 = .ok (.aload_n 0, 1) := by decide +kernel
theorem dd_Mo_branch_14 : decode prog_7_method_26_code 14 = .ok (.iload_n 1, 1) := by decide +kernel
theorem dd_Mo_branch_15 : decode prog_7_method_26_code 15 = .ok (.invokevirtual 98, 3) := by decide +kernel
theorem dd_Mo_branch_18 : decode prog_7_method_26_code 18 = .ok (.iadd, 1) := by decide +kernel
theorem dd_Mo_branch_19 : decode prog_7_method_26_code 19 = .ok (.iaload, 1) := by decide +kernel
theorem dd_Mo_branch_20 : decode prog_7_method_26_code 20 = .ok (.istore 4, 2) := by decide +kernel
theorem dd_Mo_branch_22 : decode prog_7_method_26_code 22 = .ok (.aload_n 0, 1) := by decide +kernel
theorem dd_Mo_branch_23 : decode prog_7_method_26_code 23 = .ok (.getfield 47, 3) := by decide +kernel
theorem dd_Mo_branch_26 : decode prog_7_method_26_code 26 = .ok (.iload_n 1, 1) := by decide +kernel
theorem dd_Mo_branch_27 : decode prog_7_method_26_code 27 = .ok (.baload, 1) := by decide +kernel
theorem dd_Mo_branch_28 : decode prog_7_method_26_code 28 = .ok (.ifCond .eq (42), 3) := by decide +kernel
theorem dd_Mo_branch_31 : decode prog_7_method_26_code 31 = .ok (.aload_n 0, 1) := by decide +kernel
theorem dd_Mo_branch_32 : decode prog_7_method_26_code 32 = .ok (.bipush 8, 2) := by decide +kernel
theorem dd_Mo_branch_34 : decode prog_7_method_26_code 34 = .ok (.iload_n 2, 1) := by decide +kernel
theorem dd_Mo_branch_35 : decode prog_7_method_26_code 35 = .ok (.iconst 1, 1) := by decide +kernel
theorem dd_Mo_branch_36 : decode prog_7_method_26_code 36 = .ok (.iadd, 1) := by decide +kernel
theorem dd_Mo_branch_37 : decode prog_7_method_26_code 37 = .ok (.imul, 1) := by decide +kernel
theorem dd_Mo_branch_38 : decode prog_7_method_26_code 38 = .ok (.bipush 6, 2) := by decide +kernel
theorem dd_Mo_branch_40 : decode prog_7_method_26_code 40 = .ok (.iadd, 1) := by decide +kernel
theorem dd_Mo_branch_41 : decode prog_7_method_26_code 41 = .ok (.invokevirtual 112, 3) := by decide +kernel
theorem dd_Mo_branch_44 : decode prog_7_method_26_code 44 = .ok (.aload_n 0, 1) := by decide +kernel
theorem dd_Mo_branch_45 : decode prog_7_method_26_code 45 = .ok (.iconst 3, 1) := by decide +kernel
theorem dd_Mo_branch_46 : decode prog_7_method_26_code 46 = .ok (.invokevirtual 112, 3) := by decide +kernel
theorem dd_Mo_branch_49 : decode prog_7_method_26_code 49 = .ok (.aload_n 0, 1) := by decide +kernel
theorem dd_Mo_branch_50 : decode prog_7_method_26_code 50 = .ok (.bipush 18, 2) := by decide +kernel
theorem dd_Mo_branch_52 : decode prog_7_method_26_code 52 = .ok (.iload 4, 2) := by decide +kernel
theorem dd_Mo_branch_54 : decode prog_7_method_26_code 54 = .ok (.invokevirtual 129, 3) := by decide +kernel
theorem dd_Mo_branch_57 : decode prog_7_method_26_code 57 = .ok (.aload_n 0, 1) := by decide +kernel
theorem dd_Mo_branch_58 : decode prog_7_method_26_code 58 = .ok (.dup, 1) := by decide +kernel
theorem dd_Mo_branch_59 : decode prog_7_method_26_code 59 = .ok (.getfield 116, 3) := by decide +kernel
theorem dd_Mo_branch_62 : decode prog_7_method_26_code 62 = .ok (.iconst 1, 1) := by decide +kernel
theorem dd_Mo_branch_63 : decode prog_7_method_26_code 63 = .ok (.isub, 1) := by decide +kernel
theorem dd_Mo_branch_64 : decode prog_7_method_26_code 64 = .ok (.putfield 116, 3) := by decide +kernel
theorem dd_Mo_branch_67 : decode prog_7_method_26_code 67 = .ok (.goto (27), 3) := by decide +kernel
theorem dd_Mo_branch_70 : decode prog_7_method_26_code 70 = .ok (.aload_n 0, 1) := by decide +kernel
theorem dd_Mo_branch_71 : decode prog_7_method_26_code 71 = .ok (.bipush 8, 2) := by decide +kernel
theorem dd_Mo_branch_73 : decode prog_7_method_26_code 73 = .ok (.iload_n 2, 1) := by decide +kernel
theorem dd_Mo_branch_74 : decode prog_7_method_26_code 74 = .ok (.imul, 1) := by decide +kernel
theorem dd_Mo_branch_75 : decode prog_7_method_26_code 75 = .ok (.bipush 6, 2) := by decide +kernel
theorem dd_Mo_branch_77 : decode prog_7_method_26_code 77 = .ok (.iadd, 1) := by decide +kernel
theorem dd_Mo_branch_78 : decode prog_7_method_26_code 78 = .ok (.invokevirtual 112, 3) := by decide +kernel
theorem dd_Mo_branch_81 : decode prog_7_method_26_code 81 = .ok (.aload_n 0, 1) := by decide +kernel
theorem dd_Mo_branch_82 : decode prog_7_method_26_code 82 = .ok (.iload 4, 2) := by decide +kernel
theorem dd_Mo_branch_84 : decode prog_7_method_26_code 84 = .ok (.aload_n 0, 1) := by decide +kernel
theorem dd_Mo_branch_85 : decode prog_7_method_26_code 85 = .ok (.getfield 109, 3) := by decide +kernel
theorem dd_Mo_branch_88 : decode prog_7_method_26_code 88 = .ok (.isub, 1) := by decide +kernel
theorem dd_Mo_branch_89 : decode prog_7_method_26_code 89 = .ok (.iconst 1, 1) := by decide +kernel
theorem dd_Mo_branch_90 : decode prog_7_method_26_code 90 = .ok (.isub, 1) := by decide +kernel
theorem dd_Mo_branch_91 : decode prog_7_method_26_code 91 = .ok (.invokevirtual 112, 3) := by decide +kernel
theorem dd_Mo_branch_94 : decode prog_7_method_26_code 94 = .ok (.return_, 1) := by decide +kernel
theorem dd_Mo_guard_0 : decode prog_7_method_27_code 0 = .ok (.aload_n 0, 1) := by decide +kernel
theorem dd_Mo_guard_1 : decode prog_7_method_27_code 1 = .ok (.bipush 9, 2) := by decide +kernel
theorem dd_Mo_guard_3 : decode prog_7_method_27_code 3 = .ok (.iload_n 1, 1) := by decide +kernel
theorem dd_Mo_guard_4 : decode prog_7_method_27_code 4 = .ok (.invokevirtual 122, 3) := by decide +kernel
theorem dd_Mo_guard_7 : decode prog_7_method_27_code 7 = .ok (.aload_n 0, 1) := by decide +kernel
theorem dd_Mo_guard_8 : decode prog_7_method_27_code 8 = .ok (.bipush 11, 2) := by decide +kernel
theorem dd_Mo_guard_10 : decode prog_7_method_27_code 10 = .ok (.sipush 256, 3) := by decide +kernel
theorem dd_Mo_guard_13 : decode prog_7_method_27_code 13 = .ok (.iload_n 2, 1) := by decide +kernel
theorem dd_Mo_guard_14 : decode prog_7_method_27_code 14 = .ok (.iadd, 1) := by decide +kernel
theorem dd_Mo_guard_15 : decode prog_7_method_27_code 15 = .ok (.invokevirtual 122, 3) := by decide +kernel
theorem dd_Mo_guard_18 : decode prog_7_method_27_code 18 = .ok (.aload_n 0, 1) := by decide +kernel
theorem dd_Mo_guard_19 : decode prog_7_method_27_code 19 = .ok (.sipush 134, 3) := by decide +kernel
theorem dd_Mo_guard_22 : decode prog_7_method_27_code 22 = .ok (.invokevirtual 112, 3) := by decide +kernel
theorem dd_Mo_guard_25 : decode prog_7_method_27_code 25 = .ok (.aload_n 0, 1) := by decide +kernel
theorem dd_Mo_guard_26 : decode prog_7_method_27_code 26 = .ok (.iconst 1, 1) := by decide +kernel
theorem dd_Mo_guard_27 : decode prog_7_method_27_code 27 = .ok (.invokevirtual 112, 3) := by decide +kernel
theorem dd_Mo_guard_30 : decode prog_7_method_27_code 30 = .ok (.aload_n 0, 1) := by decide +kernel
theorem dd_Mo_guard_31 : decode prog_7_method_27_code 31 = .ok (.dup, 1) := by decide +kernel
theorem dd_Mo_guard_32 : decode prog_7_method_27_code 32 = .ok (.getfield 116, 3) := by decide +kernel
theorem dd_Mo_guard_35 : decode prog_7_method_27_code 35 = .ok (.iconst 1, 1) := by decide +kernel
theorem dd_Mo_guard_36 : decode prog_7_method_27_code 36 = .ok (.iadd, 1) := by decide +kernel
theorem dd_Mo_guard_37 : decode prog_7_method_27_code 37 = .ok (.putfield 116, 3) := by decide +kernel
theorem dd_Mo_guard_40 : decode prog_7_method_27_code 40 = .ok (.aload_n 0, 1) := by decide +kernel
theorem dd_Mo_guard_41 : decode prog_7_method_27_code 41 = .ok (.sipush 176, 3) := by decide +kernel
theorem dd_Mo_guard_44 : decode prog_7_method_27_code 44 = .ok (.invokevirtual 112, 3) := by decide +kernel
theorem dd_Mo_guard_47 : decode prog_7_method_27_code 47 = .ok (.return_, 1) := by decide +kernel
theorem dd_Mo_arithmetic_0 : decode prog_7_method_28_code 0 = .ok (.aload_n 0, 1) := by decide +kernel
theorem dd_Mo_arithmetic_1 : decode prog_7_method_28_code 1 = .ok (.getfield 19, 3) := by decide +kernel
theorem dd_Mo_arithmetic_4 : decode prog_7_method_28_code 4 = .ok (.iload_n 2, 1) := by decide +kernel
theorem dd_Mo_arithmetic_5 : decode prog_7_method_28_code 5 = .ok (.iaload, 1) := by decide +kernel
theorem dd_Mo_arithmetic_6 : decode prog_7_method_28_code 6 = .ok (.istore_n 3, 1) := by decide +kernel
theorem dd_Mo_arithmetic_7 : decode prog_7_method_28_code 7 = .ok (.iload_n 3, 1) := by decide +kernel
theorem dd_Mo_arithmetic_8 : decode prog_7_method_28_code 8 = .ok (.iconst 2, 1) := by decide +kernel
theorem dd_Mo_arithmetic_9 : decode prog_7_method_28_code 9 = .ok (.if_icmp .ne (7), 3) := by decide +kernel
theorem dd_Mo_arithmetic_12 : decode prog_7_method_28_code 12 = .ok (.iconst 2, 1) := by decide +kernel
theorem dd_Mo_arithmetic_13 : decode prog_7_method_28_code 13 = .ok (.goto (13), 3) := by decide +kernel
theorem dd_Mo_arithmetic_16 : decode prog_7_method_28_code 16 = .ok (.iload_n 3, 1) := by decide +kernel
theorem dd_Mo_arithmetic_17 : decode prog_7_method_28_code 17 = .ok (.iconst 3, 1) := by decide +kernel
theorem dd_Mo_arithmetic_18 : decode prog_7_method_28_code 18 = .ok (.if_icmp .ne (7), 3) := by decide +kernel
theorem dd_Mo_arithmetic_21 : decode prog_7_method_28_code 21 = .ok (.iconst 3, 1) := by decide +kernel
theorem dd_Mo_arithmetic_22 : decode prog_7_method_28_code 22 = .ok (.goto (4), 3) := by decide +kernel
theorem dd_Mo_arithmetic_25 : decode prog_7_method_28_code 25 = .ok (.iload_n 3, 1) := by decide +kernel
theorem dd_Mo_arithmetic_26 : decode prog_7_method_28_code 26 = .ok (.istore 4, 2) := by decide +kernel
theorem dd_Mo_arithmetic_28 : decode prog_7_method_28_code 28 = .ok (.iload_n 3, 1) := by decide +kernel
theorem dd_Mo_arithmetic_29 : decode prog_7_method_28_code 29 = .ok (.iconst 2, 1) := by decide +kernel
theorem dd_Mo_arithmetic_30 : decode prog_7_method_28_code 30 = .ok (.if_icmp .ne (9), 3) := by decide +kernel
theorem dd_Mo_arithmetic_33 : decode prog_7_method_28_code 33 = .ok (.aload_n 0, 1) := by decide +kernel
theorem dd_Mo_arithmetic_34 : decode prog_7_method_28_code 34 = .ok (.bipush 12, 2) := by decide +kernel
theorem dd_Mo_arithmetic_36 : decode prog_7_method_28_code 36 = .ok (.invokevirtual 132, 3) := by decide +kernel
theorem dd_Mo_arithmetic_39 : decode prog_7_method_28_code 39 = .ok (.iload_n 3, 1) := by decide +kernel
theorem dd_Mo_arithmetic_40 : decode prog_7_method_28_code 40 = .ok (.iconst 3, 1) := by decide +kernel
theorem dd_Mo_arithmetic_41 : decode prog_7_method_28_code 41 = .ok (.if_icmp .ne (9), 3) := by decide +kernel
theorem dd_Mo_arithmetic_44 : decode prog_7_method_28_code 44 = .ok (.aload_n 0, 1) := by decide +kernel
theorem dd_Mo_arithmetic_45 : decode prog_7_method_28_code 45 = .ok (.bipush 13, 2) := by decide +kernel
theorem dd_Mo_arithmetic_47 : decode prog_7_method_28_code 47 = .ok (.invokevirtual 132, 3) := by decide +kernel
theorem dd_Mo_arithmetic_50 : decode prog_7_method_28_code 50 = .ok (.iconst 0, 1) := by decide +kernel
theorem dd_Mo_arithmetic_51 : decode prog_7_method_28_code 51 = .ok (.istore 5, 2) := by decide +kernel
theorem dd_Mo_arithmetic_53 : decode prog_7_method_28_code 53 = .ok (.iload 5, 2) := by decide +kernel
theorem dd_Mo_arithmetic_55 : decode prog_7_method_28_code 55 = .ok (.aload_n 0, 1) := by decide +kernel
theorem dd_Mo_arithmetic_56 : decode prog_7_method_28_code 56 = .ok (.getfield 16, 3) := by decide +kernel
theorem dd_Mo_arithmetic_59 : decode prog_7_method_28_code 59 = .ok (.bipush 6, 2) := by decide +kernel
theorem dd_Mo_arithmetic_61 : decode prog_7_method_28_code 61 = .ok (.iload_n 1, 1) := by decide +kernel
theorem dd_Mo_arithmetic_62 : decode prog_7_method_28_code 62 = .ok (.imul, 1) := by decide +kernel
theorem dd_Mo_arithmetic_63 : decode prog_7_method_28_code 63 = .ok (.aload_n 0, 1) := by decide +kernel
theorem dd_Mo_arithmetic_64 : decode prog_7_method_28_code 64 = .ok (.getfield 22, 3) := by decide +kernel
theorem dd_Mo_arithmetic_67 : decode prog_7_method_28_code 67 = .ok (.iload_n 2, 1) := by decide +kernel
theorem dd_Mo_arithmetic_68 : decode prog_7_method_28_code 68 = .ok (.iaload, 1) := by decide +kernel
theorem dd_Mo_arithmetic_69 : decode prog_7_method_28_code 69 = .ok (.iadd, 1) := by decide +kernel
theorem dd_Mo_arithmetic_70 : decode prog_7_method_28_code 70 = .ok (.iaload, 1) := by decide +kernel
theorem dd_Mo_arithmetic_71 : decode prog_7_method_28_code 71 = .ok (.if_icmp .ge (75), 3) := by decide +kernel
theorem dd_Mo_arithmetic_74 : decode prog_7_method_28_code 74 = .ok (.aload_n 0, 1) := by decide +kernel
theorem dd_Mo_arithmetic_75 : decode prog_7_method_28_code 75 = .ok (.iload_n 1, 1) := by decide +kernel
theorem dd_Mo_arithmetic_76 : decode prog_7_method_28_code 76 = .ok (.aload_n 0, 1) := by decide +kernel
theorem dd_Mo_arithmetic_77 : decode prog_7_method_28_code 77 = .ok (.getfield 25, 3) := by decide +kernel
theorem dd_Mo_arithmetic_80 : decode prog_7_method_28_code 80 = .ok (.iload_n 2, 1) := by decide +kernel
theorem dd_Mo_arithmetic_81 : decode prog_7_method_28_code 81 = .ok (.iaload, 1) := by decide +kernel
theorem dd_Mo_arithmetic_82 : decode prog_7_method_28_code 82 = .ok (.iload 5, 2) := by decide +kernel
theorem dd_Mo_arithmetic_84 : decode prog_7_method_28_code 84 = .ok (.invokevirtual 135, 3) := by decide +kernel
theorem dd_Mo_arithmetic_87 : decode prog_7_method_28_code 87 = .ok (.istore 6, 2) := by decide +kernel
theorem dd_Mo_arithmetic_89 : decode prog_7_method_28_code 89 = .ok (.aload_n 0, 1) := by decide +kernel
theorem dd_Mo_arithmetic_90 : decode prog_7_method_28_code 90 = .ok (.iload_n 1, 1) := by decide +kernel
theorem dd_Mo_arithmetic_91 : decode prog_7_method_28_code 91 = .ok (.aload_n 0, 1) := by decide +kernel
theorem dd_Mo_arithmetic_92 : decode prog_7_method_28_code 92 = .ok (.getfield 28, 3) := by decide +kernel
theorem dd_Mo_arithmetic_95 : decode prog_7_method_28_code 95 = .ok (.iload_n 2, 1) := by decide +kernel
theorem dd_Mo_arithmetic_96 : decode prog_7_method_28_code 96 = .ok (.iaload, 1) := by decide +kernel
theorem dd_Mo_arithmetic_97 : decode prog_7_method_28_code 97 = .ok (.iload 5, 2) := by decide +kernel
theorem dd_Mo_arithmetic_99 : decode prog_7_method_28_code 99 = .ok (.invokevirtual 135, 3) := by decide +kernel
theorem dd_Mo_arithmetic_102 : decode prog_7_method_28_code 102 = .ok (.istore 7, 2) := by decide +kernel
theorem dd_Mo_arithmetic_104 : decode prog_7_method_28_code 104 = .ok (.aload_n 0, 1) := by decide +kernel
theorem dd_Mo_arithmetic_105 : decode prog_7_method_28_code 105 = .ok (.iload_n 1, 1) := by decide +kernel
theorem dd_Mo_arithmetic_106 : decode prog_7_method_28_code 106 = .ok (.aload_n 0, 1) := by decide +kernel
theorem dd_Mo_arithmetic_107 : decode prog_7_method_28_code 107 = .ok (.getfield 22, 3) := by decide +kernel
theorem dd_Mo_arithmetic_110 : decode prog_7_method_28_code 110 = .ok (.iload_n 2, 1) := by decide +kernel
theorem dd_Mo_arithmetic_111 : decode prog_7_method_28_code 111 = .ok (.iaload, 1) := by decide +kernel
theorem dd_Mo_arithmetic_112 : decode prog_7_method_28_code 112 = .ok (.iload 5, 2) := by decide +kernel
theorem dd_Mo_arithmetic_114 : decode prog_7_method_28_code 114 = .ok (.invokevirtual 135, 3) := by decide +kernel
theorem dd_Mo_arithmetic_117 : decode prog_7_method_28_code 117 = .ok (.istore 8, 2) := by decide +kernel
theorem dd_Mo_arithmetic_119 : decode prog_7_method_28_code 119 = .ok (.aload_n 0, 1) := by decide +kernel
theorem dd_Mo_arithmetic_120 : decode prog_7_method_28_code 120 = .ok (.iload 6, 2) := by decide +kernel
theorem dd_Mo_arithmetic_122 : decode prog_7_method_28_code 122 = .ok (.invokevirtual 126, 3) := by decide +kernel
theorem dd_Mo_arithmetic_125 : decode prog_7_method_28_code 125 = .ok (.aload_n 0, 1) := by decide +kernel
theorem dd_Mo_arithmetic_126 : decode prog_7_method_28_code 126 = .ok (.iload 4, 2) := by decide +kernel
theorem dd_Mo_arithmetic_128 : decode prog_7_method_28_code 128 = .ok (.iload 7, 2) := by decide +kernel
theorem dd_Mo_arithmetic_130 : decode prog_7_method_28_code 130 = .ok (.invokevirtual 122, 3) := by decide +kernel
theorem dd_Mo_arithmetic_133 : decode prog_7_method_28_code 133 = .ok (.aload_n 0, 1) := by decide +kernel
theorem dd_Mo_arithmetic_134 : decode prog_7_method_28_code 134 = .ok (.iconst 1, 1) := by decide +kernel
theorem dd_Mo_arithmetic_135 : decode prog_7_method_28_code 135 = .ok (.iload 8, 2) := by decide +kernel
theorem dd_Mo_arithmetic_137 : decode prog_7_method_28_code 137 = .ok (.invokevirtual 122, 3) := by decide +kernel
theorem dd_Mo_arithmetic_140 : decode prog_7_method_28_code 140 = .ok (.iinc 5 1, 3) := by decide +kernel
theorem dd_Mo_arithmetic_143 : decode prog_7_method_28_code 143 = .ok (.goto (-90), 3) := by decide +kernel
theorem dd_Mo_arithmetic_146 : decode prog_7_method_28_code 146 = .ok (.return_, 1) := by decide +kernel
theorem dd_Mo_call_0 : decode prog_7_method_29_code 0 = .ok (.aload_n 0, 1) := by decide +kernel
theorem dd_Mo_call_1 : decode prog_7_method_29_code 1 = .ok (.getfield 22, 3) := by decide +kernel
theorem dd_Mo_call_4 : decode prog_7_method_29_code 4 = .ok (.iload_n 2, 1) := by decide +kernel
theorem dd_Mo_call_5 : decode prog_7_method_29_code 5 = .ok (.iaload, 1) := by decide +kernel
theorem dd_Mo_call_6 : decode prog_7_method_29_code 6 = .ok (.istore_n 3, 1) := by decide +kernel
theorem dd_Mo_call_7 : decode prog_7_method_29_code 7 = .ok (.aload_n 0, 1) := by decide +kernel
theorem dd_Mo_call_8 : decode prog_7_method_29_code 8 = .ok (.getfield 7, 3) := by decide +kernel
theorem dd_Mo_call_11 : decode prog_7_method_29_code 11 = .ok (.iload_n 3, 1) := by decide +kernel
theorem dd_Mo_call_12 : decode prog_7_method_29_code 12 = .ok (.iaload, 1) := by decide +kernel
theorem dd_Mo_call_13 : decode prog_7_method_29_code 13 = .ok (.ifCond .le (28), 3) := by decide +kernel
theorem dd_Mo_call_16 : decode prog_7_method_29_code 16 = .ok (.aload_n 0, 1) := by decide +kernel
theorem dd_Mo_call_17 : decode prog_7_method_29_code 17 = .ok (.getfield 16, 3) := by decide +kernel
theorem dd_Mo_call_20 : decode prog_7_method_29_code 20 = .ok (.bipush 6, 2) := by decide +kernel
theorem dd_Mo_call_22 : decode prog_7_method_29_code 22 = .ok (.iload_n 3, 1) := by decide +kernel
theorem dd_Mo_call_23 : decode prog_7_method_29_code 23 = .ok (.imul, 1) := by decide +kernel
theorem dd_Mo_call_24 : decode prog_7_method_29_code 24 = .ok (.iaload, 1) := by decide +kernel
theorem dd_Mo_call_25 : decode prog_7_method_29_code 25 = .ok (.iconst 3, 1) := by decide +kernel
theorem dd_Mo_call_26 : decode prog_7_method_29_code 26 = .ok (.if_icmp .ge (15), 3) := by decide +kernel
theorem dd_Mo_call_29 : decode prog_7_method_29_code 29 = .ok (.aload_n 0, 1) := by decide +kernel
theorem dd_Mo_call_30 : decode prog_7_method_29_code 30 = .ok (.getfield 16, 3) := by decide +kernel
theorem dd_Mo_call_33 : decode prog_7_method_29_code 33 = .ok (.bipush 6, 2) := by decide +kernel
theorem dd_Mo_call_35 : decode prog_7_method_29_code 35 = .ok (.iload_n 3, 1) := by decide +kernel
theorem dd_Mo_call_36 : decode prog_7_method_29_code 36 = .ok (.imul, 1) := by decide +kernel
theorem dd_Mo_call_37 : decode prog_7_method_29_code 37 = .ok (.iaload, 1) := by decide +kernel
theorem dd_Mo_call_38 : decode prog_7_method_29_code 38 = .ok (.goto (4), 3) := by decide +kernel
theorem dd_Mo_call_41 : decode prog_7_method_29_code 41 = .ok (.iconst 0, 1) := by decide +kernel
theorem dd_Mo_call_42 : decode prog_7_method_29_code 42 = .ok (.istore 4, 2) := by decide +kernel
theorem dd_Mo_call_44 : decode prog_7_method_29_code 44 = .ok (.iconst 0, 1) := by decide +kernel
theorem dd_Mo_call_45 : decode prog_7_method_29_code 45 = .ok (.istore 5, 2) := by decide +kernel
theorem dd_Mo_call_47 : decode prog_7_method_29_code 47 = .ok (.iload 5, 2) := by decide +kernel
theorem dd_Mo_call_49 : decode prog_7_method_29_code 49 = .ok (.iload 4, 2) := by decide +kernel
theorem dd_Mo_call_51 : decode prog_7_method_29_code 51 = .ok (.if_icmp .ge (42), 3) := by decide +kernel
theorem dd_Mo_call_54 : decode prog_7_method_29_code 54 = .ok (.aload_n 0, 1) := by decide +kernel
theorem dd_Mo_call_55 : decode prog_7_method_29_code 55 = .ok (.iload_n 1, 1) := by decide +kernel
theorem dd_Mo_call_56 : decode prog_7_method_29_code 56 = .ok (.aload_n 0, 1) := by decide +kernel
theorem dd_Mo_call_57 : decode prog_7_method_29_code 57 = .ok (.getfield 25, 3) := by decide +kernel
theorem dd_Mo_call_60 : decode prog_7_method_29_code 60 = .ok (.iload_n 2, 1) := by decide +kernel
theorem dd_Mo_call_61 : decode prog_7_method_29_code 61 = .ok (.iaload, 1) := by decide +kernel
theorem dd_Mo_call_62 : decode prog_7_method_29_code 62 = .ok (.iload 5, 2) := by decide +kernel
theorem dd_Mo_call_64 : decode prog_7_method_29_code 64 = .ok (.invokevirtual 135, 3) := by decide +kernel
theorem dd_Mo_call_67 : decode prog_7_method_29_code 67 = .ok (.istore 6, 2) := by decide +kernel
theorem dd_Mo_call_69 : decode prog_7_method_29_code 69 = .ok (.aload_n 0, 1) := by decide +kernel
theorem dd_Mo_call_70 : decode prog_7_method_29_code 70 = .ok (.iload_n 3, 1) := by decide +kernel
theorem dd_Mo_call_71 : decode prog_7_method_29_code 71 = .ok (.iconst 0, 1) := by decide +kernel
theorem dd_Mo_call_72 : decode prog_7_method_29_code 72 = .ok (.iload 5, 2) := by decide +kernel
theorem dd_Mo_call_74 : decode prog_7_method_29_code 74 = .ok (.invokevirtual 135, 3) := by decide +kernel
theorem dd_Mo_call_77 : decode prog_7_method_29_code 77 = .ok (.istore 7, 2) := by decide +kernel
theorem dd_Mo_call_79 : decode prog_7_method_29_code 79 = .ok (.aload_n 0, 1) := by decide +kernel
theorem dd_Mo_call_80 : decode prog_7_method_29_code 80 = .ok (.iload 6, 2) := by decide +kernel
theorem dd_Mo_call_82 : decode prog_7_method_29_code 82 = .ok (.iload 7, 2) := by decide +kernel
theorem dd_Mo_call_84 : decode prog_7_method_29_code 84 = .ok (.invokevirtual 139, 3) := by decide +kernel
theorem dd_Mo_call_87 : decode prog_7_method_29_code 87 = .ok (.iinc 5 1, 3) := by decide +kernel
theorem dd_Mo_call_90 : decode prog_7_method_29_code 90 = .ok (.goto (-43), 3) := by decide +kernel
theorem dd_Mo_call_93 : decode prog_7_method_29_code 93 = .ok (.aload_n 0, 1) := by decide +kernel
theorem dd_Mo_call_94 : decode prog_7_method_29_code 94 = .ok (.bipush 19, 2) := by decide +kernel
theorem dd_Mo_call_96 : decode prog_7_method_29_code 96 = .ok (.aload_n 0, 1) := by decide +kernel
theorem dd_Mo_call_97 : decode prog_7_method_29_code 97 = .ok (.getfield 41, 3) := by decide +kernel
theorem dd_Mo_call_100 : decode prog_7_method_29_code 100 = .ok (.bipush 24, 2) := by decide +kernel
theorem dd_Mo_call_102 : decode prog_7_method_29_code 102 = .ok (.iload_n 3, 1) := by decide +kernel
theorem dd_Mo_call_103 : decode prog_7_method_29_code 103 = .ok (.imul, 1) := by decide +kernel
theorem dd_Mo_call_104 : decode prog_7_method_29_code 104 = .ok (.iaload, 1) := by decide +kernel
theorem dd_Mo_call_105 : decode prog_7_method_29_code 105 = .ok (.invokevirtual 129, 3) := by decide +kernel
theorem dd_Mo_call_108 : decode prog_7_method_29_code 108 = .ok (.aload_n 0, 1) := by decide +kernel
theorem dd_Mo_call_109 : decode prog_7_method_29_code 109 = .ok (.getfield 50, 3) := by decide +kernel
theorem dd_Mo_call_112 : decode prog_7_method_29_code 112 = .ok (.iload_n 2, 1) := by decide +kernel
theorem dd_Mo_call_113 : decode prog_7_method_29_code 113 = .ok (.aload_n 0, 1) := by decide +kernel
theorem dd_Mo_call_114 : decode prog_7_method_29_code 114 = .ok (.getfield 116, 3) := by decide +kernel
theorem dd_Mo_call_117 : decode prog_7_method_29_code 117 = .ok (.iastore, 1) := by decide +kernel
theorem dd_Mo_call_118 : decode prog_7_method_29_code 118 = .ok (.aload_n 0, 1) := by decide +kernel
theorem dd_Mo_call_119 : decode prog_7_method_29_code 119 = .ok (.iconst 0, 1) := by decide +kernel
theorem dd_Mo_call_120 : decode prog_7_method_29_code 120 = .ok (.putfield 116, 3) := by decide +kernel
theorem dd_Mo_call_123 : decode prog_7_method_29_code 123 = .ok (.aload_n 0, 1) := by decide +kernel
theorem dd_Mo_call_124 : decode prog_7_method_29_code 124 = .ok (.iload_n 1, 1) := by decide +kernel
theorem dd_Mo_call_125 : decode prog_7_method_29_code 125 = .ok (.aload_n 0, 1) := by decide +kernel
theorem dd_Mo_call_126 : decode prog_7_method_29_code 126 = .ok (.getfield 28, 3) := by decide +kernel
theorem dd_Mo_call_129 : decode prog_7_method_29_code 129 = .ok (.iload_n 2, 1) := by decide +kernel
theorem dd_Mo_call_130 : decode prog_7_method_29_code 130 = .ok (.iaload, 1) := by decide +kernel
theorem dd_Mo_call_131 : decode prog_7_method_29_code 131 = .ok (.invokevirtual 105, 3) := by decide +kernel
theorem dd_Mo_call_134 : decode prog_7_method_29_code 134 = .ok (.istore 5, 2) := by decide +kernel
theorem dd_Mo_call_136 : decode prog_7_method_29_code 136 = .ok (.iconst 0, 1) := by decide +kernel
theorem dd_Mo_call_137 : decode prog_7_method_29_code 137 = .ok (.istore 6, 2) := by decide +kernel
theorem dd_Mo_call_139 : decode prog_7_method_29_code 139 = .ok (.iload 6, 2) := by decide +kernel
theorem dd_Mo_call_141 : decode prog_7_method_29_code 141 = .ok (.aload_n 0, 1) := by decide +kernel
theorem dd_Mo_call_142 : decode prog_7_method_29_code 142 = .ok (.getfield 16, 3) := by decide +kernel
theorem dd_Mo_call_145 : decode prog_7_method_29_code 145 = .ok (.bipush 6, 2) := by decide +kernel
theorem dd_Mo_call_147 : decode prog_7_method_29_code 147 = .ok (.iload_n 1, 1) := by decide +kernel
theorem dd_Mo_call_148 : decode prog_7_method_29_code 148 = .ok (.imul, 1) := by decide +kernel
theorem dd_Mo_call_149 : decode prog_7_method_29_code 149 = .ok (.aload_n 0, 1) := by decide +kernel
theorem dd_Mo_call_150 : decode prog_7_method_29_code 150 = .ok (.getfield 28, 3) := by decide +kernel
theorem dd_Mo_call_153 : decode prog_7_method_29_code 153 = .ok (.iload_n 2, 1) := by decide +kernel
theorem dd_Mo_call_154 : decode prog_7_method_29_code 154 = .ok (.iaload, 1) := by decide +kernel
theorem dd_Mo_call_155 : decode prog_7_method_29_code 155 = .ok (.iadd, 1) := by decide +kernel
theorem dd_Mo_call_156 : decode prog_7_method_29_code 156 = .ok (.iaload, 1) := by decide +kernel
theorem dd_Mo_call_157 : decode prog_7_method_29_code 157 = .ok (.if_icmp .ge (23), 3) := by decide +kernel
theorem dd_Mo_call_160 : decode prog_7_method_29_code 160 = .ok (.aload_n 0, 1) := by decide +kernel
theorem dd_Mo_call_161 : decode prog_7_method_29_code 161 = .ok (.bipush 126, 2) := by decide +kernel
theorem dd_Mo_call_163 : decode prog_7_method_29_code 163 = .ok (.iload 6, 2) := by decide +kernel
theorem dd_Mo_call_165 : decode prog_7_method_29_code 165 = .ok (.iadd, 1) := by decide +kernel
theorem dd_Mo_call_166 : decode prog_7_method_29_code 166 = .ok (.iload 5, 2) := by decide +kernel
theorem dd_Mo_call_168 : decode prog_7_method_29_code 168 = .ok (.iload 6, 2) := by decide +kernel
theorem dd_Mo_call_170 : decode prog_7_method_29_code 170 = .ok (.iadd, 1) := by decide +kernel
theorem dd_Mo_call_171 : decode prog_7_method_29_code 171 = .ok (.invokevirtual 139, 3) := by decide +kernel
theorem dd_Mo_call_174 : decode prog_7_method_29_code 174 = .ok (.iinc 6 1, 3) := by decide +kernel
theorem dd_Mo_call_177 : decode prog_7_method_29_code 177 = .ok (.goto (-38), 3) := by decide +kernel
theorem dd_Mo_call_180 : decode prog_7_method_29_code 180 = .ok (.aload_n 0, 1) := by decide +kernel
theorem dd_Mo_call_181 : decode prog_7_method_29_code 181 = .ok (.getfield 53, 3) := by decide +kernel
theorem dd_Mo_call_184 : decode prog_7_method_29_code 184 = .ok (.iload_n 2, 1) := by decide +kernel
theorem dd_Mo_call_185 : decode prog_7_method_29_code 185 = .ok (.aload_n 0, 1) := by decide +kernel
theorem dd_Mo_call_186 : decode prog_7_method_29_code 186 = .ok (.getfield 116, 3) := by decide +kernel
theorem dd_Mo_call_189 : decode prog_7_method_29_code 189 = .ok (.iastore, 1) := by decide +kernel
theorem dd_Mo_call_190 : decode prog_7_method_29_code 190 = .ok (.return_, 1) := by decide +kernel
theorem dd_Mo_tests_0 : decode prog_7_method_30_code 0 = .ok (.aload_n 0, 1) := by decide +kernel
theorem dd_Mo_tests_1 : decode prog_7_method_30_code 1 = .ok (.getfield 22, 3) := by decide +kernel
theorem dd_Mo_tests_4 : decode prog_7_method_30_code 4 = .ok (.iload_n 2, 1) := by decide +kernel
theorem dd_Mo_tests_5 : decode prog_7_method_30_code 5 = .ok (.iaload, 1) := by decide +kernel
theorem dd_Mo_tests_6 : decode prog_7_method_30_code 6 = .ok (.istore_n 3, 1) := by decide +kernel
theorem dd_Mo_tests_7 : decode prog_7_method_30_code 7 = .ok (.aload_n 0, 1) := by decide +kernel
theorem dd_Mo_tests_8 : decode prog_7_method_30_code 8 = .ok (.iload_n 1, 1) := by decide +kernel
theorem dd_Mo_tests_9 : decode prog_7_method_30_code 9 = .ok (.iload_n 3, 1) := by decide +kernel
theorem dd_Mo_tests_10 : decode prog_7_method_30_code 10 = .ok (.iconst 0, 1) := by decide +kernel
theorem dd_Mo_tests_11 : decode prog_7_method_30_code 11 = .ok (.invokevirtual 135, 3) := by decide +kernel
theorem dd_Mo_tests_14 : decode prog_7_method_30_code 14 = .ok (.istore 4, 2) := by decide +kernel
theorem dd_Mo_tests_16 : decode prog_7_method_30_code 16 = .ok (.aload_n 0, 1) := by decide +kernel
theorem dd_Mo_tests_17 : decode prog_7_method_30_code 17 = .ok (.getfield 16, 3) := by decide +kernel
theorem dd_Mo_tests_20 : decode prog_7_method_30_code 20 = .ok (.bipush 6, 2) := by decide +kernel
theorem dd_Mo_tests_22 : decode prog_7_method_30_code 22 = .ok (.iload_n 1, 1) := by decide +kernel
theorem dd_Mo_tests_23 : decode prog_7_method_30_code 23 = .ok (.imul, 1) := by decide +kernel
theorem dd_Mo_tests_24 : decode prog_7_method_30_code 24 = .ok (.iload_n 3, 1) := by decide +kernel
theorem dd_Mo_tests_25 : decode prog_7_method_30_code 25 = .ok (.iadd, 1) := by decide +kernel
theorem dd_Mo_tests_26 : decode prog_7_method_30_code 26 = .ok (.iaload, 1) := by decide +kernel
theorem dd_Mo_tests_27 : decode prog_7_method_30_code 27 = .ok (.iconst 2, 1) := by decide +kernel
theorem dd_Mo_tests_28 : decode prog_7_method_30_code 28 = .ok (.if_icmp .ne (7), 3) := by decide +kernel
theorem dd_Mo_tests_31 : decode prog_7_method_30_code 31 = .ok (.iconst 1, 1) := by decide +kernel
theorem dd_Mo_tests_32 : decode prog_7_method_30_code 32 = .ok (.goto (4), 3) := by decide +kernel
theorem dd_Mo_tests_35 : decode prog_7_method_30_code 35 = .ok (.iconst 0, 1) := by decide +kernel
theorem dd_Mo_tests_36 : decode prog_7_method_30_code 36 = .ok (.istore 5, 2) := by decide +kernel
theorem dd_Mo_tests_38 : decode prog_7_method_30_code 38 = .ok (.aload_n 0, 1) := by decide +kernel
theorem dd_Mo_tests_39 : decode prog_7_method_30_code 39 = .ok (.getfield 19, 3) := by decide +kernel
theorem dd_Mo_tests_42 : decode prog_7_method_30_code 42 = .ok (.iload_n 2, 1) := by decide +kernel
theorem dd_Mo_tests_43 : decode prog_7_method_30_code 43 = .ok (.iaload, 1) := by decide +kernel
theorem dd_Mo_tests_44 : decode prog_7_method_30_code 44 = .ok (.bipush 11, 2) := by decide +kernel
theorem dd_Mo_tests_46 : decode prog_7_method_30_code 46 = .ok (.if_icmp .ne (53), 3) := by decide +kernel
theorem dd_Mo_tests_49 : decode prog_7_method_30_code 49 = .ok (.iload 5, 2) := by decide +kernel
theorem dd_Mo_tests_51 : decode prog_7_method_30_code 51 = .ok (.ifCond .eq (12), 3) := by decide +kernel
theorem dd_Mo_tests_54 : decode prog_7_method_30_code 54 = .ok (.aload_n 0, 1) := by decide +kernel
theorem dd_Mo_tests_55 : decode prog_7_method_30_code 55 = .ok (.iload 4, 2) := by decide +kernel
theorem dd_Mo_tests_57 : decode prog_7_method_30_code 57 = .ok (.invokevirtual 126, 3) := by decide +kernel
theorem dd_Mo_tests_60 : decode prog_7_method_30_code 60 = .ok (.goto (10), 3) := by decide +kernel
theorem dd_Mo_tests_63 : decode prog_7_method_30_code 63 = .ok (.aload_n 0, 1) := by decide +kernel
theorem dd_Mo_tests_64 : decode prog_7_method_30_code 64 = .ok (.iconst 0, 1) := by decide +kernel
theorem dd_Mo_tests_65 : decode prog_7_method_30_code 65 = .ok (.iload 4, 2) := by decide +kernel
theorem dd_Mo_tests_67 : decode prog_7_method_30_code 67 = .ok (.invokevirtual 122, 3) := by decide +kernel
theorem dd_Mo_tests_70 : decode prog_7_method_30_code 70 = .ok (.aload_n 0, 1) := by decide +kernel
theorem dd_Mo_tests_71 : decode prog_7_method_30_code 71 = .ok (.iload_n 1, 1) := by decide +kernel
theorem dd_Mo_tests_72 : decode prog_7_method_30_code 72 = .ok (.iload_n 3, 1) := by decide +kernel
theorem dd_Mo_tests_73 : decode prog_7_method_30_code 73 = .ok (.iconst 1, 1) := by decide +kernel
theorem dd_Mo_tests_74 : decode prog_7_method_30_code 74 = .ok (.invokevirtual 135, 3) := by decide +kernel
theorem dd_Mo_tests_77 : decode prog_7_method_30_code 77 = .ok (.istore 6, 2) := by decide +kernel
theorem dd_Mo_tests_79 : decode prog_7_method_30_code 79 = .ok (.iload 5, 2) := by decide +kernel
theorem dd_Mo_tests_81 : decode prog_7_method_30_code 81 = .ok (.ifCond .eq (10), 3) := by decide +kernel
theorem dd_Mo_tests_84 : decode prog_7_method_30_code 84 = .ok (.aload_n 0, 1) := by decide +kernel
theorem dd_Mo_tests_85 : decode prog_7_method_30_code 85 = .ok (.iconst 5, 1) := by decide +kernel
theorem dd_Mo_tests_86 : decode prog_7_method_30_code 86 = .ok (.iload 6, 2) := by decide +kernel
theorem dd_Mo_tests_88 : decode prog_7_method_30_code 88 = .ok (.invokevirtual 122, 3) := by decide +kernel
theorem dd_Mo_tests_91 : decode prog_7_method_30_code 91 = .ok (.aload_n 0, 1) := by decide +kernel
theorem dd_Mo_tests_92 : decode prog_7_method_30_code 92 = .ok (.iload_n 2, 1) := by decide +kernel
theorem dd_Mo_tests_93 : decode prog_7_method_30_code 93 = .ok (.bipush 14, 2) := by decide +kernel
theorem dd_Mo_tests_95 : decode prog_7_method_30_code 95 = .ok (.invokevirtual 142, 3) := by decide +kernel
theorem dd_Mo_tests_98 : decode prog_7_method_30_code 98 = .ok (.return_, 1) := by decide +kernel
theorem dd_Mo_tests_99 : decode prog_7_method_30_code 99 = .ok (.aload_n 0, 1) := by decide +kernel
theorem dd_Mo_tests_100 : decode prog_7_method_30_code 100 = .ok (.getfield 25, 3) := by decide +kernel
theorem dd_Mo_tests_103 : decode prog_7_method_30_code 103 = .ok (.iload_n 2, 1) := by decide +kernel
theorem dd_Mo_tests_104 : decode prog_7_method_30_code 104 = .ok (.iaload, 1) := by decide +kernel
theorem dd_Mo_tests_105 : decode prog_7_method_30_code 105 = .ok (.istore 6, 2) := by decide +kernel
theorem dd_Mo_tests_107 : decode prog_7_method_30_code 107 = .ok (.aload_n 0, 1) := by decide +kernel
theorem dd_Mo_tests_108 : decode prog_7_method_30_code 108 = .ok (.iload 4, 2) := by decide +kernel
theorem dd_Mo_tests_110 : decode prog_7_method_30_code 110 = .ok (.invokevirtual 126, 3) := by decide +kernel
theorem dd_Mo_tests_113 : decode prog_7_method_30_code 113 = .ok (.aload_n 0, 1) := by decide +kernel
theorem dd_Mo_tests_114 : decode prog_7_method_30_code 114 = .ok (.iload_n 1, 1) := by decide +kernel
theorem dd_Mo_tests_115 : decode prog_7_method_30_code 115 = .ok (.iload 6, 2) := by decide +kernel
theorem dd_Mo_tests_117 : decode prog_7_method_30_code 117 = .ok (.iconst 0, 1) := by decide +kernel
theorem dd_Mo_tests_118 : decode prog_7_method_30_code 118 = .ok (.invokevirtual 135, 3) := by decide +kernel
theorem dd_Mo_tests_121 : decode prog_7_method_30_code 121 = .ok (.istore 7, 2) := by decide +kernel
theorem dd_Mo_tests_123 : decode prog_7_method_30_code 123 = .ok (.aload_n 0, 1) := by decide +kernel
theorem dd_Mo_tests_124 : decode prog_7_method_30_code 124 = .ok (.bipush 10, 2) := by decide +kernel
theorem dd_Mo_tests_126 : decode prog_7_method_30_code 126 = .ok (.iload 7, 2) := by decide +kernel
theorem dd_Mo_tests_128 : decode prog_7_method_30_code 128 = .ok (.invokevirtual 122, 3) := by decide +kernel
theorem dd_Mo_tests_131 : decode prog_7_method_30_code 131 = .ok (.iload 5, 2) := by decide +kernel
theorem dd_Mo_tests_133 : decode prog_7_method_30_code 133 = .ok (.ifCond .ne (19), 3) := by decide +kernel
theorem dd_Mo_tests_136 : decode prog_7_method_30_code 136 = .ok (.aload_n 0, 1) := by decide +kernel
theorem dd_Mo_tests_137 : decode prog_7_method_30_code 137 = .ok (.getfield 16, 3) := by decide +kernel
theorem dd_Mo_tests_140 : decode prog_7_method_30_code 140 = .ok (.bipush 6, 2) := by decide +kernel
theorem dd_Mo_tests_142 : decode prog_7_method_30_code 142 = .ok (.iload_n 1, 1) := by decide +kernel
theorem dd_Mo_tests_143 : decode prog_7_method_30_code 143 = .ok (.imul, 1) := by decide +kernel
theorem dd_Mo_tests_144 : decode prog_7_method_30_code 144 = .ok (.iload 6, 2) := by decide +kernel
theorem dd_Mo_tests_146 : decode prog_7_method_30_code 146 = .ok (.iadd, 1) := by decide +kernel
theorem dd_Mo_tests_147 : decode prog_7_method_30_code 147 = .ok (.iaload, 1) := by decide +kernel
theorem dd_Mo_tests_148 : decode prog_7_method_30_code 148 = .ok (.iconst 2, 1) := by decide +kernel
theorem dd_Mo_tests_149 : decode prog_7_method_30_code 149 = .ok (.if_icmp .ne (35), 3) := by decide +kernel
theorem dd_Mo_tests_152 : decode prog_7_method_30_code 152 = .ok (.aload_n 0, 1) := by decide +kernel
theorem dd_Mo_tests_153 : decode prog_7_method_30_code 153 = .ok (.iload_n 1, 1) := by decide +kernel
theorem dd_Mo_tests_154 : decode prog_7_method_30_code 154 = .ok (.iload_n 3, 1) := by decide +kernel
theorem dd_Mo_tests_155 : decode prog_7_method_30_code 155 = .ok (.iconst 1, 1) := by decide +kernel
theorem dd_Mo_tests_156 : decode prog_7_method_30_code 156 = .ok (.invokevirtual 135, 3) := by decide +kernel
theorem dd_Mo_tests_159 : decode prog_7_method_30_code 159 = .ok (.istore 8, 2) := by decide +kernel
theorem dd_Mo_tests_161 : decode prog_7_method_30_code 161 = .ok (.aload_n 0, 1) := by decide +kernel
theorem dd_Mo_tests_162 : decode prog_7_method_30_code 162 = .ok (.iload 8, 2) := by decide +kernel
theorem dd_Mo_tests_164 : decode prog_7_method_30_code 164 = .ok (.invokevirtual 126, 3) := by decide +kernel
theorem dd_Mo_tests_167 : decode prog_7_method_30_code 167 = .ok (.aload_n 0, 1) := by decide +kernel
theorem dd_Mo_tests_168 : decode prog_7_method_30_code 168 = .ok (.iload_n 1, 1) := by decide +kernel
theorem dd_Mo_tests_169 : decode prog_7_method_30_code 169 = .ok (.iload 6, 2) := by decide +kernel
theorem dd_Mo_tests_171 : decode prog_7_method_30_code 171 = .ok (.iconst 1, 1) := by decide +kernel
theorem dd_Mo_tests_172 : decode prog_7_method_30_code 172 = .ok (.invokevirtual 135, 3) := by decide +kernel
theorem dd_Mo_tests_175 : decode prog_7_method_30_code 175 = .ok (.istore 7, 2) := by decide +kernel
theorem dd_Mo_tests_177 : decode prog_7_method_30_code 177 = .ok (.aload_n 0, 1) := by decide +kernel
theorem dd_Mo_tests_178 : decode prog_7_method_30_code 178 = .ok (.iconst 3, 1) := by decide +kernel
theorem dd_Mo_tests_179 : decode prog_7_method_30_code 179 = .ok (.iload 7, 2) := by decide +kernel
theorem dd_Mo_tests_181 : decode prog_7_method_30_code 181 = .ok (.invokevirtual 122, 3) := by decide +kernel
theorem dd_Mo_tests_184 : decode prog_7_method_30_code 184 = .ok (.aload_n 0, 1) := by decide +kernel
theorem dd_Mo_tests_185 : decode prog_7_method_30_code 185 = .ok (.iload_n 2, 1) := by decide +kernel
theorem dd_Mo_tests_186 : decode prog_7_method_30_code 186 = .ok (.bipush 16, 2) := by decide +kernel
theorem dd_Mo_tests_188 : decode prog_7_method_30_code 188 = .ok (.invokevirtual 142, 3) := by decide +kernel
theorem dd_Mo_tests_191 : decode prog_7_method_30_code 191 = .ok (.return_, 1) := by decide +kernel
theorem dd_Mo_arrays_0 : decode prog_7_method_31_code 0 = .ok (.aload_n 0, 1) := by decide +kernel
theorem dd_Mo_arrays_1 : decode prog_7_method_31_code 1 = .ok (.getfield 19, 3) := by decide +kernel
theorem dd_Mo_arrays_4 : decode prog_7_method_31_code 4 = .ok (.iload_n 2, 1) := by decide +kernel
theorem dd_Mo_arrays_5 : decode prog_7_method_31_code 5 = .ok (.iaload, 1) := by decide +kernel
theorem dd_Mo_arrays_6 : decode prog_7_method_31_code 6 = .ok (.bipush 8, 2) := by decide +kernel
theorem dd_Mo_arrays_8 : decode prog_7_method_31_code 8 = .ok (.if_icmp .ne (7), 3) := by decide +kernel
theorem dd_Mo_arrays_11 : decode prog_7_method_31_code 11 = .ok (.iconst 1, 1) := by decide +kernel
theorem dd_Mo_arrays_12 : decode prog_7_method_31_code 12 = .ok (.goto (4), 3) := by decide +kernel
theorem dd_Mo_arrays_15 : decode prog_7_method_31_code 15 = .ok (.iconst 0, 1) := by decide +kernel
theorem dd_Mo_arrays_16 : decode prog_7_method_31_code 16 = .ok (.istore_n 3, 1) := by decide +kernel
theorem dd_Mo_arrays_17 : decode prog_7_method_31_code 17 = .ok (.iload_n 3, 1) := by decide +kernel
theorem dd_Mo_arrays_18 : decode prog_7_method_31_code 18 = .ok (.ifCond .eq (12), 3) := by decide +kernel
theorem dd_Mo_arrays_21 : decode prog_7_method_31_code 21 = .ok (.aload_n 0, 1) := by decide +kernel
theorem dd_Mo_arrays_22 : decode prog_7_method_31_code 22 = .ok (.getfield 25, 3) := by decide +kernel
theorem dd_Mo_arrays_25 : decode prog_7_method_31_code 25 = .ok (.iload_n 2, 1) := by decide +kernel
theorem dd_Mo_arrays_26 : decode prog_7_method_31_code 26 = .ok (.iaload, 1) := by decide +kernel
theorem dd_Mo_arrays_27 : decode prog_7_method_31_code 27 = .ok (.goto (9), 3) := by decide +kernel
theorem dd_Mo_arrays_30 : decode prog_7_method_31_code 30 = .ok (.aload_n 0, 1) := by decide +kernel
theorem dd_Mo_arrays_31 : decode prog_7_method_31_code 31 = .ok (.getfield 22, 3) := by decide +kernel
theorem dd_Mo_arrays_34 : decode prog_7_method_31_code 34 = .ok (.iload_n 2, 1) := by decide +kernel
theorem dd_Mo_arrays_35 : decode prog_7_method_31_code 35 = .ok (.iaload, 1) := by decide +kernel
theorem dd_Mo_arrays_36 : decode prog_7_method_31_code 36 = .ok (.istore 4, 2) := by decide +kernel
theorem dd_Mo_arrays_38 : decode prog_7_method_31_code 38 = .ok (.aload_n 0, 1) := by decide +kernel
theorem dd_Mo_arrays_39 : decode prog_7_method_31_code 39 = .ok (.iload_n 1, 1) := by decide +kernel
theorem dd_Mo_arrays_40 : decode prog_7_method_31_code 40 = .ok (.iload_n 3, 1) := by decide +kernel
theorem dd_Mo_arrays_41 : decode prog_7_method_31_code 41 = .ok (.ifCond .eq (12), 3) := by decide +kernel
theorem dd_Mo_arrays_44 : decode prog_7_method_31_code 44 = .ok (.aload_n 0, 1) := by decide +kernel
theorem dd_Mo_arrays_45 : decode prog_7_method_31_code 45 = .ok (.getfield 28, 3) := by decide +kernel
theorem dd_Mo_arrays_48 : decode prog_7_method_31_code 48 = .ok (.iload_n 2, 1) := by decide +kernel
theorem dd_Mo_arrays_49 : decode prog_7_method_31_code 49 = .ok (.iaload, 1) := by decide +kernel
theorem dd_Mo_arrays_50 : decode prog_7_method_31_code 50 = .ok (.goto (9), 3) := by decide +kernel
theorem dd_Mo_arrays_53 : decode prog_7_method_31_code 53 = .ok (.aload_n 0, 1) := by decide +kernel
theorem dd_Mo_arrays_54 : decode prog_7_method_31_code 54 = .ok (.getfield 25, 3) := by decide +kernel
theorem dd_Mo_arrays_57 : decode prog_7_method_31_code 57 = .ok (.iload_n 2, 1) := by decide +kernel
theorem dd_Mo_arrays_58 : decode prog_7_method_31_code 58 = .ok (.iaload, 1) := by decide +kernel
theorem dd_Mo_arrays_59 : decode prog_7_method_31_code 59 = .ok (.invokevirtual 105, 3) := by decide +kernel
theorem dd_Mo_arrays_62 : decode prog_7_method_31_code 62 = .ok (.istore 5, 2) := by decide +kernel
theorem dd_Mo_arrays_64 : decode prog_7_method_31_code 64 = .ok (.aload_n 0, 1) := by decide +kernel
theorem dd_Mo_arrays_65 : decode prog_7_method_31_code 65 = .ok (.iload_n 1, 1) := by decide +kernel
theorem dd_Mo_arrays_66 : decode prog_7_method_31_code 66 = .ok (.iload 4, 2) := by decide +kernel
theorem dd_Mo_arrays_68 : decode prog_7_method_31_code 68 = .ok (.invokevirtual 105, 3) := by decide +kernel
theorem dd_Mo_arrays_71 : decode prog_7_method_31_code 71 = .ok (.istore 6, 2) := by decide +kernel
theorem dd_Mo_arrays_73 : decode prog_7_method_31_code 73 = .ok (.aload_n 0, 1) := by decide +kernel
theorem dd_Mo_arrays_74 : decode prog_7_method_31_code 74 = .ok (.iload 5, 2) := by decide +kernel
theorem dd_Mo_arrays_76 : decode prog_7_method_31_code 76 = .ok (.aload_n 0, 1) := by decide +kernel
theorem dd_Mo_arrays_77 : decode prog_7_method_31_code 77 = .ok (.getfield 16, 3) := by decide +kernel
theorem dd_Mo_arrays_80 : decode prog_7_method_31_code 80 = .ok (.bipush 6, 2) := by decide +kernel
theorem dd_Mo_arrays_82 : decode prog_7_method_31_code 82 = .ok (.iload_n 1, 1) := by decide +kernel
theorem dd_Mo_arrays_83 : decode prog_7_method_31_code 83 = .ok (.imul, 1) := by decide +kernel
theorem dd_Mo_arrays_84 : decode prog_7_method_31_code 84 = .ok (.iload 4, 2) := by decide +kernel
theorem dd_Mo_arrays_86 : decode prog_7_method_31_code 86 = .ok (.iadd, 1) := by decide +kernel
theorem dd_Mo_arrays_87 : decode prog_7_method_31_code 87 = .ok (.iaload, 1) := by decide +kernel
theorem dd_Mo_arrays_88 : decode prog_7_method_31_code 88 = .ok (.invokevirtual 145, 3) := by decide +kernel
theorem dd_Mo_arrays_91 : decode prog_7_method_31_code 91 = .ok (.iload_n 3, 1) := by decide +kernel
theorem dd_Mo_arrays_92 : decode prog_7_method_31_code 92 = .ok (.ifCond .ne (30), 3) := by decide +kernel
theorem dd_Mo_arrays_95 : decode prog_7_method_31_code 95 = .ok (.aload_n 0, 1) := by decide +kernel
theorem dd_Mo_arrays_96 : decode prog_7_method_31_code 96 = .ok (.iload_n 1, 1) := by decide +kernel
theorem dd_Mo_arrays_97 : decode prog_7_method_31_code 97 = .ok (.aload_n 0, 1) := by decide +kernel
theorem dd_Mo_arrays_98 : decode prog_7_method_31_code 98 = .ok (.getfield 28, 3) := by decide +kernel
theorem dd_Mo_arrays_101 : decode prog_7_method_31_code 101 = .ok (.iload_n 2, 1) := by decide +kernel
theorem dd_Mo_arrays_102 : decode prog_7_method_31_code 102 = .ok (.iaload, 1) := by decide +kernel
theorem dd_Mo_arrays_103 : decode prog_7_method_31_code 103 = .ok (.invokevirtual 105, 3) := by decide +kernel
theorem dd_Mo_arrays_106 : decode prog_7_method_31_code 106 = .ok (.istore 7, 2) := by decide +kernel
theorem dd_Mo_arrays_108 : decode prog_7_method_31_code 108 = .ok (.aload_n 0, 1) := by decide +kernel
theorem dd_Mo_arrays_109 : decode prog_7_method_31_code 109 = .ok (.iload 7, 2) := by decide +kernel
theorem dd_Mo_arrays_111 : decode prog_7_method_31_code 111 = .ok (.invokevirtual 126, 3) := by decide +kernel
theorem dd_Mo_arrays_114 : decode prog_7_method_31_code 114 = .ok (.aload_n 0, 1) := by decide +kernel
theorem dd_Mo_arrays_115 : decode prog_7_method_31_code 115 = .ok (.iconst 1, 1) := by decide +kernel
theorem dd_Mo_arrays_116 : decode prog_7_method_31_code 116 = .ok (.iload 6, 2) := by decide +kernel
theorem dd_Mo_arrays_118 : decode prog_7_method_31_code 118 = .ok (.invokevirtual 148, 3) := by decide +kernel
theorem dd_Mo_arrays_121 : decode prog_7_method_31_code 121 = .ok (.return_, 1) := by decide +kernel
theorem dd_Mo_arrays_122 : decode prog_7_method_31_code 122 = .ok (.aload_n 0, 1) := by decide +kernel
theorem dd_Mo_arrays_123 : decode prog_7_method_31_code 123 = .ok (.iload_n 1, 1) := by decide +kernel
theorem dd_Mo_arrays_124 : decode prog_7_method_31_code 124 = .ok (.aload_n 0, 1) := by decide +kernel
theorem dd_Mo_arrays_125 : decode prog_7_method_31_code 125 = .ok (.getfield 22, 3) := by decide +kernel
theorem dd_Mo_arrays_128 : decode prog_7_method_31_code 128 = .ok (.iload_n 2, 1) := by decide +kernel
theorem dd_Mo_arrays_129 : decode prog_7_method_31_code 129 = .ok (.iaload, 1) := by decide +kernel
theorem dd_Mo_arrays_130 : decode prog_7_method_31_code 130 = .ok (.invokevirtual 105, 3) := by decide +kernel
theorem dd_Mo_arrays_133 : decode prog_7_method_31_code 133 = .ok (.istore 7, 2) := by decide +kernel
theorem dd_Mo_arrays_135 : decode prog_7_method_31_code 135 = .ok (.aload_n 0, 1) := by decide +kernel
theorem dd_Mo_arrays_136 : decode prog_7_method_31_code 136 = .ok (.iconst 0, 1) := by decide +kernel
theorem dd_Mo_arrays_137 : decode prog_7_method_31_code 137 = .ok (.iload 6, 2) := by decide +kernel
theorem dd_Mo_arrays_139 : decode prog_7_method_31_code 139 = .ok (.invokevirtual 148, 3) := by decide +kernel
theorem dd_Mo_arrays_142 : decode prog_7_method_31_code 142 = .ok (.aload_n 0, 1) := by decide +kernel
theorem dd_Mo_arrays_143 : decode prog_7_method_31_code 143 = .ok (.iconst 1, 1) := by decide +kernel
theorem dd_Mo_arrays_144 : decode prog_7_method_31_code 144 = .ok (.iload 7, 2) := by decide +kernel
theorem dd_Mo_arrays_146 : decode prog_7_method_31_code 146 = .ok (.invokevirtual 122, 3) := by decide +kernel
theorem dd_Mo_arrays_149 : decode prog_7_method_31_code 149 = .ok (.aload_n 0, 1) := by decide +kernel
theorem dd_Mo_arrays_150 : decode prog_7_method_31_code 150 = .ok (.getfield 16, 3) := by decide +kernel
theorem dd_Mo_arrays_153 : decode prog_7_method_31_code 153 = .ok (.bipush 6, 2) := by decide +kernel
theorem dd_Mo_arrays_155 : decode prog_7_method_31_code 155 = .ok (.iload_n 1, 1) := by decide +kernel
theorem dd_Mo_arrays_156 : decode prog_7_method_31_code 156 = .ok (.imul, 1) := by decide +kernel
theorem dd_Mo_arrays_157 : decode prog_7_method_31_code 157 = .ok (.aload_n 0, 1) := by decide +kernel
theorem dd_Mo_arrays_158 : decode prog_7_method_31_code 158 = .ok (.getfield 22, 3) := by decide +kernel
theorem dd_Mo_arrays_161 : decode prog_7_method_31_code 161 = .ok (.iload_n 2, 1) := by decide +kernel
theorem dd_Mo_arrays_162 : decode prog_7_method_31_code 162 = .ok (.iaload, 1) := by decide +kernel
theorem dd_Mo_arrays_163 : decode prog_7_method_31_code 163 = .ok (.iadd, 1) := by decide +kernel
theorem dd_Mo_arrays_164 : decode prog_7_method_31_code 164 = .ok (.iaload, 1) := by decide +kernel
theorem dd_Mo_arrays_165 : decode prog_7_method_31_code 165 = .ok (.iconst 2, 1) := by decide +kernel
theorem dd_Mo_arrays_166 : decode prog_7_method_31_code 166 = .ok (.if_icmp .ne (14), 3) := by decide +kernel
theorem dd_Mo_arrays_169 : decode prog_7_method_31_code 169 = .ok (.aload_n 0, 1) := by decide +kernel
theorem dd_Mo_arrays_170 : decode prog_7_method_31_code 170 = .ok (.sipush 256, 3) := by decide +kernel
theorem dd_Mo_arrays_173 : decode prog_7_method_31_code 173 = .ok (.iload 7, 2) := by decide +kernel
theorem dd_Mo_arrays_175 : decode prog_7_method_31_code 175 = .ok (.iconst 1, 1) := by decide +kernel
theorem dd_Mo_arrays_176 : decode prog_7_method_31_code 176 = .ok (.iadd, 1) := by decide +kernel
theorem dd_Mo_arrays_177 : decode prog_7_method_31_code 177 = .ok (.invokevirtual 139, 3) := by decide +kernel
theorem dd_Mo_arrays_180 : decode prog_7_method_31_code 180 = .ok (.return_, 1) := by decide +kernel
theorem dd_Mo_others_0 : decode prog_7_method_32_code 0 = .ok (.aload_n 0, 1) := by decide +kernel
theorem dd_Mo_others_1 : decode prog_7_method_32_code 1 = .ok (.getfield 22, 3) := by decide +kernel
theorem dd_Mo_others_4 : decode prog_7_method_32_code 4 = .ok (.iload_n 2, 1) := by decide +kernel
theorem dd_Mo_others_5 : decode prog_7_method_32_code 5 = .ok (.iaload, 1) := by decide +kernel
theorem dd_Mo_others_6 : decode prog_7_method_32_code 6 = .ok (.istore_n 3, 1) := by decide +kernel
theorem dd_Mo_others_7 : decode prog_7_method_32_code 7 = .ok (.aload_n 0, 1) := by decide +kernel
theorem dd_Mo_others_8 : decode prog_7_method_32_code 8 = .ok (.iload_n 1, 1) := by decide +kernel
theorem dd_Mo_others_9 : decode prog_7_method_32_code 9 = .ok (.iload_n 3, 1) := by decide +kernel
theorem dd_Mo_others_10 : decode prog_7_method_32_code 10 = .ok (.invokevirtual 105, 3) := by decide +kernel
theorem dd_Mo_others_13 : decode prog_7_method_32_code 13 = .ok (.istore 4, 2) := by decide +kernel
theorem dd_Mo_others_15 : decode prog_7_method_32_code 15 = .ok (.aload_n 0, 1) := by decide +kernel
theorem dd_Mo_others_16 : decode prog_7_method_32_code 16 = .ok (.getfield 16, 3) := by decide +kernel
theorem dd_Mo_others_19 : decode prog_7_method_32_code 19 = .ok (.bipush 6, 2) := by decide +kernel
theorem dd_Mo_others_21 : decode prog_7_method_32_code 21 = .ok (.iload_n 1, 1) := by decide +kernel
theorem dd_Mo_others_22 : decode prog_7_method_32_code 22 = .ok (.imul, 1) := by decide +kernel
theorem dd_Mo_others_23 : decode prog_7_method_32_code 23 = .ok (.iload_n 3, 1) := by decide +kernel
theorem dd_Mo_others_24 : decode prog_7_method_32_code 24 = .ok (.iadd, 1) := by decide +kernel
theorem dd_Mo_others_25 : decode prog_7_method_32_code 25 = .ok (.iaload, 1) := by decide +kernel
theorem dd_Mo_others_26 : decode prog_7_method_32_code 26 = .ok (.istore 5, 2) := by decide +kernel
theorem dd_Mo_others_28 : decode prog_7_method_32_code 28 = .ok (.aload_n 0, 1) := by decide +kernel
theorem dd_Mo_others_29 : decode prog_7_method_32_code 29 = .ok (.getfield 19, 3) := by decide +kernel
theorem dd_Mo_others_32 : decode prog_7_method_32_code 32 = .ok (.iload_n 2, 1) := by decide +kernel
theorem dd_Mo_others_33 : decode prog_7_method_32_code 33 = .ok (.iaload, 1) := by decide +kernel
theorem dd_Mo_others_34 : decode prog_7_method_32_code 34 = .ok (.bipush 7, 2) := by decide +kernel
theorem dd_Mo_others_36 : decode prog_7_method_32_code 36 = .ok (.if_icmp .ne (30), 3) := by decide +kernel
theorem dd_Mo_others_39 : decode prog_7_method_32_code 39 = .ok (.aload_n 0, 1) := by decide +kernel
theorem dd_Mo_others_40 : decode prog_7_method_32_code 40 = .ok (.bipush 7, 2) := by decide +kernel
theorem dd_Mo_others_42 : decode prog_7_method_32_code 42 = .ok (.iload 4, 2) := by decide +kernel
theorem dd_Mo_others_44 : decode prog_7_method_32_code 44 = .ok (.invokevirtual 122, 3) := by decide +kernel
theorem dd_Mo_others_47 : decode prog_7_method_32_code 47 = .ok (.iload 5, 2) := by decide +kernel
theorem dd_Mo_others_49 : decode prog_7_method_32_code 49 = .ok (.iconst 2, 1) := by decide +kernel
theorem dd_Mo_others_50 : decode prog_7_method_32_code 50 = .ok (.if_icmp .ne (178), 3) := by decide +kernel
theorem dd_Mo_others_53 : decode prog_7_method_32_code 53 = .ok (.aload_n 0, 1) := by decide +kernel
theorem dd_Mo_others_54 : decode prog_7_method_32_code 54 = .ok (.bipush 8, 2) := by decide +kernel
theorem dd_Mo_others_56 : decode prog_7_method_32_code 56 = .ok (.iload 4, 2) := by decide +kernel
theorem dd_Mo_others_58 : decode prog_7_method_32_code 58 = .ok (.iconst 1, 1) := by decide +kernel
theorem dd_Mo_others_59 : decode prog_7_method_32_code 59 = .ok (.iadd, 1) := by decide +kernel
theorem dd_Mo_others_60 : decode prog_7_method_32_code 60 = .ok (.invokevirtual 122, 3) := by decide +kernel
theorem dd_Mo_others_63 : decode prog_7_method_32_code 63 = .ok (.goto (165), 3) := by decide +kernel
theorem dd_Mo_others_66 : decode prog_7_method_32_code 66 = .ok (.aload_n 0, 1) := by decide +kernel
theorem dd_Mo_others_67 : decode prog_7_method_32_code 67 = .ok (.getfield 19, 3) := by decide +kernel
theorem dd_Mo_others_70 : decode prog_7_method_32_code 70 = .ok (.iload_n 2, 1) := by decide +kernel
theorem dd_Mo_others_71 : decode prog_7_method_32_code 71 = .ok (.iaload, 1) := by decide +kernel
theorem dd_Mo_others_72 : decode prog_7_method_32_code 72 = .ok (.bipush 14, 2) := by decide +kernel
theorem dd_Mo_others_74 : decode prog_7_method_32_code 74 = .ok (.if_icmp .ne (37), 3) := by decide +kernel
theorem dd_Mo_others_77 : decode prog_7_method_32_code 77 = .ok (.aload_n 0, 1) := by decide +kernel
theorem dd_Mo_others_78 : decode prog_7_method_32_code 78 = .ok (.iload_n 1, 1) := by decide +kernel
theorem dd_Mo_others_79 : decode prog_7_method_32_code 79 = .ok (.iload_n 3, 1) := by decide +kernel
theorem dd_Mo_others_80 : decode prog_7_method_32_code 80 = .ok (.iconst 1, 1) := by decide +kernel
theorem dd_Mo_others_81 : decode prog_7_method_32_code 81 = .ok (.invokevirtual 135, 3) := by decide +kernel
theorem dd_Mo_others_84 : decode prog_7_method_32_code 84 = .ok (.istore 6, 2) := by decide +kernel
theorem dd_Mo_others_86 : decode prog_7_method_32_code 86 = .ok (.aload_n 0, 1) := by decide +kernel
theorem dd_Mo_others_87 : decode prog_7_method_32_code 87 = .ok (.iload 4, 2) := by decide +kernel
theorem dd_Mo_others_89 : decode prog_7_method_32_code 89 = .ok (.bipush 126, 2) := by decide +kernel
theorem dd_Mo_others_91 : decode prog_7_method_32_code 91 = .ok (.invokevirtual 139, 3) := by decide +kernel
theorem dd_Mo_others_94 : decode prog_7_method_32_code 94 = .ok (.aload_n 0, 1) := by decide +kernel
theorem dd_Mo_others_95 : decode prog_7_method_32_code 95 = .ok (.iload 6, 2) := by decide +kernel
theorem dd_Mo_others_97 : decode prog_7_method_32_code 97 = .ok (.bipush 127, 2) := by decide +kernel
theorem dd_Mo_others_99 : decode prog_7_method_32_code 99 = .ok (.invokevirtual 139, 3) := by decide +kernel
theorem dd_Mo_others_102 : decode prog_7_method_32_code 102 = .ok (.aload_n 0, 1) := by decide +kernel
theorem dd_Mo_others_103 : decode prog_7_method_32_code 103 = .ok (.bipush 20, 2) := by decide +kernel
theorem dd_Mo_others_105 : decode prog_7_method_32_code 105 = .ok (.invokevirtual 132, 3) := by decide +kernel
theorem dd_Mo_others_108 : decode prog_7_method_32_code 108 = .ok (.goto (120), 3) := by decide +kernel
theorem dd_Mo_others_111 : decode prog_7_method_32_code 111 = .ok (.iconst 0, 1) := by decide +kernel
theorem dd_Mo_others_112 : decode prog_7_method_32_code 112 = .ok (.istore 6, 2) := by decide +kernel
theorem dd_Mo_others_114 : decode prog_7_method_32_code 114 = .ok (.iload 6, 2) := by decide +kernel
theorem dd_Mo_others_116 : decode prog_7_method_32_code 116 = .ok (.iload 5, 2) := by decide +kernel
theorem dd_Mo_others_118 : decode prog_7_method_32_code 118 = .ok (.if_icmp .ge (110), 3) := by decide +kernel
theorem dd_Mo_others_121 : decode prog_7_method_32_code 121 = .ok (.aload_n 0, 1) := by decide +kernel
theorem dd_Mo_others_122 : decode prog_7_method_32_code 122 = .ok (.getfield 19, 3) := by decide +kernel
theorem dd_Mo_others_125 : decode prog_7_method_32_code 125 = .ok (.iload_n 2, 1) := by decide +kernel
theorem dd_Mo_others_126 : decode prog_7_method_32_code 126 = .ok (.iaload, 1) := by decide +kernel
theorem dd_Mo_others_127 : decode prog_7_method_32_code 127 = .ok (.ifCond .ne (26), 3) := by decide +kernel
theorem dd_Mo_others_130 : decode prog_7_method_32_code 130 = .ok (.sipush 256, 3) := by decide +kernel
theorem dd_Mo_others_133 : decode prog_7_method_32_code 133 = .ok (.aload_n 0, 1) := by decide +kernel
theorem dd_Mo_others_134 : decode prog_7_method_32_code 134 = .ok (.getfield 25, 3) := by decide +kernel
theorem dd_Mo_others_137 : decode prog_7_method_32_code 137 = .ok (.iload_n 2, 1) := by decide +kernel
theorem dd_Mo_others_138 : decode prog_7_method_32_code 138 = .ok (.iaload, 1) := by decide +kernel
theorem dd_Mo_others_139 : decode prog_7_method_32_code 139 = .ok (.bipush 8, 2) := by decide +kernel
theorem dd_Mo_others_141 : decode prog_7_method_32_code 141 = .ok (.iload 6, 2) := by decide +kernel
theorem dd_Mo_others_143 : decode prog_7_method_32_code 143 = .ok (.imul, 1) := by decide +kernel
theorem dd_Mo_others_144 : decode prog_7_method_32_code 144 = .ok (.ishr, 1) := by decide +kernel
theorem dd_Mo_others_145 : decode prog_7_method_32_code 145 = .ok (.sipush 255, 3) := by decide +kernel
theorem dd_Mo_others_148 : decode prog_7_method_32_code 148 = .ok (.iand, 1) := by decide +kernel
theorem dd_Mo_others_149 : decode prog_7_method_32_code 149 = .ok (.iadd, 1) := by decide +kernel
theorem dd_Mo_others_150 : decode prog_7_method_32_code 150 = .ok (.goto (34), 3) := by decide +kernel
theorem dd_Mo_others_153 : decode prog_7_method_32_code 153 = .ok (.aload_n 0, 1) := by decide +kernel
theorem dd_Mo_others_154 : decode prog_7_method_32_code 154 = .ok (.getfield 19, 3) := by decide +kernel
theorem dd_Mo_others_157 : decode prog_7_method_32_code 157 = .ok (.iload_n 2, 1) := by decide +kernel
theorem dd_Mo_others_158 : decode prog_7_method_32_code 158 = .ok (.iaload, 1) := by decide +kernel
theorem dd_Mo_others_159 : decode prog_7_method_32_code 159 = .ok (.iconst 1, 1) := by decide +kernel
theorem dd_Mo_others_160 : decode prog_7_method_32_code 160 = .ok (.if_icmp .ne (19), 3) := by decide +kernel
theorem dd_Mo_others_163 : decode prog_7_method_32_code 163 = .ok (.aload_n 0, 1) := by decide +kernel
theorem dd_Mo_others_164 : decode prog_7_method_32_code 164 = .ok (.iload_n 1, 1) := by decide +kernel
theorem dd_Mo_others_165 : decode prog_7_method_32_code 165 = .ok (.aload_n 0, 1) := by decide +kernel
theorem dd_Mo_others_166 : decode prog_7_method_32_code 166 = .ok (.getfield 25, 3) := by decide +kernel
theorem dd_Mo_others_169 : decode prog_7_method_32_code 169 = .ok (.iload_n 2, 1) := by decide +kernel
theorem dd_Mo_others_170 : decode prog_7_method_32_code 170 = .ok (.iaload, 1) := by decide +kernel
theorem dd_Mo_others_171 : decode prog_7_method_32_code 171 = .ok (.iload 6, 2) := by decide +kernel
theorem dd_Mo_others_173 : decode prog_7_method_32_code 173 = .ok (.invokevirtual 135, 3) := by decide +kernel
theorem dd_Mo_others_176 : decode prog_7_method_32_code 176 = .ok (.goto (8), 3) := by decide +kernel
theorem dd_Mo_others_179 : decode prog_7_method_32_code 179 = .ok (.iload 4, 2) := by decide +kernel
theorem dd_Mo_others_181 : decode prog_7_method_32_code 181 = .ok (.iload 6, 2) := by decide +kernel
theorem dd_Mo_others_183 : decode prog_7_method_32_code 183 = .ok (.iadd, 1) := by decide +kernel
theorem dd_Mo_others_184 : decode prog_7_method_32_code 184 = .ok (.istore 7, 2) := by decide +kernel
theorem dd_Mo_others_186 : decode prog_7_method_32_code 186 = .ok (.aload_n 0, 1) := by decide +kernel
theorem dd_Mo_others_187 : decode prog_7_method_32_code 187 = .ok (.iload 7, 2) := by decide +kernel
theorem dd_Mo_others_189 : decode prog_7_method_32_code 189 = .ok (.invokevirtual 126, 3) := by decide +kernel
theorem dd_Mo_others_192 : decode prog_7_method_32_code 192 = .ok (.aload_n 0, 1) := by decide +kernel
theorem dd_Mo_others_193 : decode prog_7_method_32_code 193 = .ok (.getfield 19, 3) := by decide +kernel
theorem dd_Mo_others_196 : decode prog_7_method_32_code 196 = .ok (.iload_n 2, 1) := by decide +kernel
theorem dd_Mo_others_197 : decode prog_7_method_32_code 197 = .ok (.iaload, 1) := by decide +kernel
theorem dd_Mo_others_198 : decode prog_7_method_32_code 198 = .ok (.bipush 15, 2) := by decide +kernel
theorem dd_Mo_others_200 : decode prog_7_method_32_code 200 = .ok (.if_icmp .ne (12), 3) := by decide +kernel
theorem dd_Mo_others_203 : decode prog_7_method_32_code 203 = .ok (.aload_n 0, 1) := by decide +kernel
theorem dd_Mo_others_204 : decode prog_7_method_32_code 204 = .ok (.bipush 21, 2) := by decide +kernel
theorem dd_Mo_others_206 : decode prog_7_method_32_code 206 = .ok (.invokevirtual 132, 3) := by decide +kernel
theorem dd_Mo_others_209 : decode prog_7_method_32_code 209 = .ok (.goto (13), 3) := by decide +kernel
theorem dd_Mo_others_212 : decode prog_7_method_32_code 212 = .ok (.aload_n 0, 1) := by decide +kernel
theorem dd_Mo_others_213 : decode prog_7_method_32_code 213 = .ok (.iconst 1, 1) := by decide +kernel
theorem dd_Mo_others_214 : decode prog_7_method_32_code 214 = .ok (.iload 4, 2) := by decide +kernel
theorem dd_Mo_others_216 : decode prog_7_method_32_code 216 = .ok (.iload 6, 2) := by decide +kernel
theorem dd_Mo_others_218 : decode prog_7_method_32_code 218 = .ok (.iadd, 1) := by decide +kernel
theorem dd_Mo_others_219 : decode prog_7_method_32_code 219 = .ok (.invokevirtual 122, 3) := by decide +kernel
theorem dd_Mo_others_222 : decode prog_7_method_32_code 222 = .ok (.iinc 6 1, 3) := by decide +kernel
theorem dd_Mo_others_225 : decode prog_7_method_32_code 225 = .ok (.goto (-111), 3) := by decide +kernel
theorem dd_Mo_others_228 : decode prog_7_method_32_code 228 = .ok (.return_, 1) := by decide +kernel
theorem dd_Mo_layOut_0 : decode prog_7_method_33_code 0 = .ok (.aload_n 0, 1) := by decide +kernel
theorem dd_Mo_layOut_1 : decode prog_7_method_33_code 1 = .ok (.iconst 0, 1) := by decide +kernel
theorem dd_Mo_layOut_2 : decode prog_7_method_33_code 2 = .ok (.putfield 109, 3) := by decide +kernel
theorem dd_Mo_layOut_5 : decode prog_7_method_33_code 5 = .ok (.iconst 0, 1) := by decide +kernel
theorem dd_Mo_layOut_6 : decode prog_7_method_33_code 6 = .ok (.istore_n 1, 1) := by decide +kernel
theorem dd_Mo_layOut_7 : decode prog_7_method_33_code 7 = .ok (.iload_n 1, 1) := by decide +kernel
theorem dd_Mo_layOut_8 : decode prog_7_method_33_code 8 = .ok (.aload_n 0, 1) := by decide +kernel
theorem dd_Mo_layOut_9 : decode prog_7_method_33_code 9 = .ok (.getfield 72, 3) := by decide +kernel
theorem dd_Mo_layOut_12 : decode prog_7_method_33_code 12 = .ok (.if_icmp .ge (200), 3) := by decide +kernel
theorem dd_Mo_layOut_15 : decode prog_7_method_33_code 15 = .ok (.aload_n 0, 1) := by decide +kernel
theorem dd_Mo_layOut_16 : decode prog_7_method_33_code 16 = .ok (.iconst (-1), 1) := by decide +kernel
theorem dd_Mo_layOut_17 : decode prog_7_method_33_code 17 = .ok (.putfield 119, 3) := by decide +kernel
theorem dd_Mo_layOut_20 : decode prog_7_method_33_code 20 = .ok (.bipush 24, 2) := by decide +kernel
theorem dd_Mo_layOut_22 : decode prog_7_method_33_code 22 = .ok (.iload_n 1, 1) := by decide +kernel
theorem dd_Mo_layOut_23 : decode prog_7_method_33_code 23 = .ok (.imul, 1) := by decide +kernel
theorem dd_Mo_layOut_24 : decode prog_7_method_33_code 24 = .ok (.istore_n 2, 1) := by decide +kernel
theorem dd_Mo_layOut_25 : decode prog_7_method_33_code 25 = .ok (.iload_n 2, 1) := by decide +kernel
theorem dd_Mo_layOut_26 : decode prog_7_method_33_code 26 = .ok (.bipush 24, 2) := by decide +kernel
theorem dd_Mo_layOut_28 : decode prog_7_method_33_code 28 = .ok (.iload_n 1, 1) := by decide +kernel
theorem dd_Mo_layOut_29 : decode prog_7_method_33_code 29 = .ok (.imul, 1) := by decide +kernel
theorem dd_Mo_layOut_30 : decode prog_7_method_33_code 30 = .ok (.aload_n 0, 1) := by decide +kernel
theorem dd_Mo_layOut_31 : decode prog_7_method_33_code 31 = .ok (.getfield 13, 3) := by decide +kernel
theorem dd_Mo_layOut_34 : decode prog_7_method_33_code 34 = .ok (.iload_n 1, 1) := by decide +kernel
theorem dd_Mo_layOut_35 : decode prog_7_method_33_code 35 = .ok (.iaload, 1) := by decide +kernel
theorem dd_Mo_layOut_36 : decode prog_7_method_33_code 36 = .ok (.iadd, 1) := by decide +kernel
theorem dd_Mo_layOut_37 : decode prog_7_method_33_code 37 = .ok (.if_icmp .ge (169), 3) := by decide +kernel
theorem dd_Mo_layOut_40 : decode prog_7_method_33_code 40 = .ok (.aload_n 0, 1) := by decide +kernel
theorem dd_Mo_layOut_41 : decode prog_7_method_33_code 41 = .ok (.getfield 19, 3) := by decide +kernel
theorem dd_Mo_layOut_44 : decode prog_7_method_33_code 44 = .ok (.iload_n 2, 1) := by decide +kernel
theorem dd_Mo_layOut_45 : decode prog_7_method_33_code 45 = .ok (.iaload, 1) := by decide +kernel
theorem dd_Mo_layOut_46 : decode prog_7_method_33_code 46 = .ok (.istore_n 3, 1) := by decide +kernel
theorem dd_Mo_layOut_47 : decode prog_7_method_33_code 47 = .ok (.aload_n 0, 1) := by decide +kernel
theorem dd_Mo_layOut_48 : decode prog_7_method_33_code 48 = .ok (.getfield 44, 3) := by decide +kernel
theorem dd_Mo_layOut_51 : decode prog_7_method_33_code 51 = .ok (.iload_n 2, 1) := by decide +kernel
theorem dd_Mo_layOut_52 : decode prog_7_method_33_code 52 = .ok (.baload, 1) := by decide +kernel
theorem dd_Mo_layOut_53 : decode prog_7_method_33_code 53 = .ok (.ifCond .eq (8), 3) := by decide +kernel
theorem dd_Mo_layOut_56 : decode prog_7_method_33_code 56 = .ok (.aload_n 0, 1) := by decide +kernel
theorem dd_Mo_layOut_57 : decode prog_7_method_33_code 57 = .ok (.iconst (-1), 1) := by decide +kernel
theorem dd_Mo_layOut_58 : decode prog_7_method_33_code 58 = .ok (.putfield 119, 3) := by decide +kernel
theorem dd_Mo_layOut_61 : decode prog_7_method_33_code 61 = .ok (.aload_n 0, 1) := by decide +kernel
theorem dd_Mo_layOut_62 : decode prog_7_method_33_code 62 = .ok (.getfield 41, 3) := by decide +kernel
theorem dd_Mo_layOut_65 : decode prog_7_method_33_code 65 = .ok (.iload_n 2, 1) := by decide +kernel
theorem dd_Mo_layOut_66 : decode prog_7_method_33_code 66 = .ok (.aload_n 0, 1) := by decide +kernel
theorem dd_Mo_layOut_67 : decode prog_7_method_33_code 67 = .ok (.getfield 109, 3) := by decide +kernel
theorem dd_Mo_layOut_70 : decode prog_7_method_33_code 70 = .ok (.iastore, 1) := by decide +kernel
theorem dd_Mo_layOut_71 : decode prog_7_method_33_code 71 = .ok (.aload_n 0, 1) := by decide +kernel
theorem dd_Mo_layOut_72 : decode prog_7_method_33_code 72 = .ok (.iconst 0, 1) := by decide +kernel
theorem dd_Mo_layOut_73 : decode prog_7_method_33_code 73 = .ok (.putfield 116, 3) := by decide +kernel
theorem dd_Mo_layOut_76 : decode prog_7_method_33_code 76 = .ok (.iload_n 3, 1) := by decide +kernel
theorem dd_Mo_layOut_77 : decode prog_7_method_33_code 77 = .ok (.iconst 2, 1) := by decide +kernel
theorem dd_Mo_layOut_78 : decode prog_7_method_33_code 78 = .ok (.if_icmp .lt (18), 3) := by decide +kernel
theorem dd_Mo_layOut_81 : decode prog_7_method_33_code 81 = .ok (.iload_n 3, 1) := by decide +kernel
theorem dd_Mo_layOut_82 : decode prog_7_method_33_code 82 = .ok (.bipush 6, 2) := by decide +kernel
theorem dd_Mo_layOut_84 : decode prog_7_method_33_code 84 = .ok (.if_icmp .gt (12), 3) := by decide +kernel
theorem dd_Mo_layOut_87 : decode prog_7_method_33_code 87 = .ok (.aload_n 0, 1) := by decide +kernel
theorem dd_Mo_layOut_88 : decode prog_7_method_33_code 88 = .ok (.iload_n 1, 1) := by decide +kernel
theorem dd_Mo_layOut_89 : decode prog_7_method_33_code 89 = .ok (.iload_n 2, 1) := by decide +kernel
theorem dd_Mo_layOut_90 : decode prog_7_method_33_code 90 = .ok (.invokevirtual 151, 3) := by decide +kernel
theorem dd_Mo_layOut_93 : decode prog_7_method_33_code 93 = .ok (.goto (91), 3) := by decide +kernel
theorem dd_Mo_layOut_96 : decode prog_7_method_33_code 96 = .ok (.iload_n 3, 1) := by decide +kernel
theorem dd_Mo_layOut_97 : decode prog_7_method_33_code 97 = .ok (.bipush 8, 2) := by decide +kernel
theorem dd_Mo_layOut_99 : decode prog_7_method_33_code 99 = .ok (.if_icmp .eq (9), 3) := by decide +kernel
theorem dd_Mo_layOut_102 : decode prog_7_method_33_code 102 = .ok (.iload_n 3, 1) := by decide +kernel
theorem dd_Mo_layOut_103 : decode prog_7_method_33_code 103 = .ok (.bipush 9, 2) := by decide +kernel
theorem dd_Mo_layOut_105 : decode prog_7_method_33_code 105 = .ok (.if_icmp .ne (12), 3) := by decide +kernel
theorem dd_Mo_layOut_108 : decode prog_7_method_33_code 108 = .ok (.aload_n 0, 1) := by decide +kernel
theorem dd_Mo_layOut_109 : decode prog_7_method_33_code 109 = .ok (.iload_n 1, 1) := by decide +kernel
theorem dd_Mo_layOut_110 : decode prog_7_method_33_code 110 = .ok (.iload_n 2, 1) := by decide +kernel
theorem dd_Mo_layOut_111 : decode prog_7_method_33_code 111 = .ok (.invokevirtual 154, 3) := by decide +kernel
theorem dd_Mo_layOut_114 : decode prog_7_method_33_code 114 = .ok (.goto (70), 3) := by decide +kernel
theorem dd_Mo_layOut_117 : decode prog_7_method_33_code 117 = .ok (.iload_n 3, 1) := by decide +kernel
theorem dd_Mo_layOut_118 : decode prog_7_method_33_code 118 = .ok (.bipush 10, 2) := by decide +kernel
theorem dd_Mo_layOut_120 : decode prog_7_method_33_code 120 = .ok (.if_icmp .ne (27), 3) := by decide +kernel
theorem dd_Mo_layOut_123 : decode prog_7_method_33_code 123 = .ok (.aload_n 0, 1) := by decide +kernel
theorem dd_Mo_layOut_124 : decode prog_7_method_33_code 124 = .ok (.bipush 18, 2) := by decide +kernel
theorem dd_Mo_layOut_126 : decode prog_7_method_33_code 126 = .ok (.aload_n 0, 1) := by decide +kernel
theorem dd_Mo_layOut_127 : decode prog_7_method_33_code 127 = .ok (.getfield 41, 3) := by decide +kernel
theorem dd_Mo_layOut_130 : decode prog_7_method_33_code 130 = .ok (.bipush 24, 2) := by decide +kernel
theorem dd_Mo_layOut_132 : decode prog_7_method_33_code 132 = .ok (.iload_n 1, 1) := by decide +kernel
theorem dd_Mo_layOut_133 : decode prog_7_method_33_code 133 = .ok (.imul, 1) := by decide +kernel
theorem dd_Mo_layOut_134 : decode prog_7_method_33_code 134 = .ok (.aload_n 0, 1) := by decide +kernel
theorem dd_Mo_layOut_135 : decode prog_7_method_33_code 135 = .ok (.iload_n 2, 1) := by decide +kernel
theorem dd_Mo_layOut_136 : decode prog_7_method_33_code 136 = .ok (.invokevirtual 98, 3) := by decide +kernel
theorem dd_Mo_layOut_139 : decode prog_7_method_33_code 139 = .ok (.iadd, 1) := by decide +kernel
theorem dd_Mo_layOut_140 : decode prog_7_method_33_code 140 = .ok (.iaload, 1) := by decide +kernel
theorem dd_Mo_layOut_141 : decode prog_7_method_33_code 141 = .ok (.invokevirtual 129, 3) := by decide +kernel
theorem dd_Mo_layOut_144 : decode prog_7_method_33_code 144 = .ok (.goto (40), 3) := by decide +kernel
theorem dd_Mo_layOut_147 : decode prog_7_method_33_code 147 = .ok (.iload_n 3, 1) := by decide +kernel
theorem dd_Mo_layOut_148 : decode prog_7_method_33_code 148 = .ok (.invokestatic 95, 3) := by decide +kernel
theorem dd_Mo_layOut_151 : decode prog_7_method_33_code 151 = .ok (.ifCond .eq (12), 3) := by decide +kernel
theorem dd_Mo_layOut_154 : decode prog_7_method_33_code 154 = .ok (.aload_n 0, 1) := by decide +kernel
theorem dd_Mo_layOut_155 : decode prog_7_method_33_code 155 = .ok (.iload_n 1, 1) := by decide +kernel
theorem dd_Mo_layOut_156 : decode prog_7_method_33_code 156 = .ok (.iload_n 2, 1) := by decide +kernel
theorem dd_Mo_layOut_157 : decode prog_7_method_33_code 157 = .ok (.invokevirtual 157, 3) := by decide +kernel
theorem dd_Mo_layOut_160 : decode prog_7_method_33_code 160 = .ok (.goto (24), 3) := by decide +kernel
theorem dd_Mo_layOut_163 : decode prog_7_method_33_code 163 = .ok (.iload_n 3, 1) := by decide +kernel
theorem dd_Mo_layOut_164 : decode prog_7_method_33_code 164 = .ok (.bipush 13, 2) := by decide +kernel
theorem dd_Mo_layOut_166 : decode prog_7_method_33_code 166 = .ok (.if_icmp .ne (12), 3) := by decide +kernel
theorem dd_Mo_layOut_169 : decode prog_7_method_33_code 169 = .ok (.aload_n 0, 1) := by decide +kernel
theorem dd_Mo_layOut_170 : decode prog_7_method_33_code 170 = .ok (.iload_n 1, 1) := by decide +kernel
theorem dd_Mo_layOut_171 : decode prog_7_method_33_code 171 = .ok (.iload_n 2, 1) := by decide +kernel
theorem dd_Mo_layOut_172 : decode prog_7_method_33_code 172 = .ok (.invokevirtual 160, 3) := by decide +kernel
theorem dd_Mo_layOut_175 : decode prog_7_method_33_code 175 = .ok (.goto (9), 3) := by decide +kernel
theorem dd_Mo_layOut_178 : decode prog_7_method_33_code 178 = .ok (.aload_n 0, 1) := by decide +kernel
theorem dd_Mo_layOut_179 : decode prog_7_method_33_code 179 = .ok (.iload_n 1, 1) := by decide +kernel
theorem dd_Mo_layOut_180 : decode prog_7_method_33_code 180 = .ok (.iload_n 2, 1) := by decide +kernel
theorem dd_Mo_layOut_181 : decode prog_7_method_33_code 181 = .ok (.invokevirtual 163, 3) := by decide +kernel
theorem dd_Mo_layOut_184 : decode prog_7_method_33_code 184 = .ok (.iload_n 3, 1) := by decide +kernel
theorem dd_Mo_layOut_185 : decode prog_7_method_33_code 185 = .ok (.bipush 13, 2) := by decide +kernel
theorem dd_Mo_layOut_187 : decode prog_7_method_33_code 187 = .ok (.if_icmp .eq (13), 3) := by decide +kernel
theorem dd_Mo_layOut_190 : decode prog_7_method_33_code 190 = .ok (.aload_n 0, 1) := by decide +kernel
theorem dd_Mo_layOut_191 : decode prog_7_method_33_code 191 = .ok (.getfield 50, 3) := by decide +kernel
theorem dd_Mo_layOut_194 : decode prog_7_method_33_code 194 = .ok (.iload_n 2, 1) := by decide +kernel
theorem dd_Mo_layOut_195 : decode prog_7_method_33_code 195 = .ok (.aload_n 0, 1) := by decide +kernel
theorem dd_Mo_layOut_196 : decode prog_7_method_33_code 196 = .ok (.getfield 116, 3) := by decide +kernel
theorem dd_Mo_layOut_199 : decode prog_7_method_33_code 199 = .ok (.iastore, 1) := by decide +kernel
theorem dd_Mo_layOut_200 : decode prog_7_method_33_code 200 = .ok (.iinc 2 1, 3) := by decide +kernel
theorem dd_Mo_layOut_203 : decode prog_7_method_33_code 203 = .ok (.goto (-178), 3) := by decide +kernel
theorem dd_Mo_layOut_206 : decode prog_7_method_33_code 206 = .ok (.iinc 1 1, 3) := by decide +kernel
theorem dd_Mo_layOut_209 : decode prog_7_method_33_code 209 = .ok (.goto (-202), 3) := by decide +kernel
theorem dd_Mo_layOut_212 : decode prog_7_method_33_code 212 = .ok (.return_, 1) := by decide +kernel
theorem dd_Mo_branchAt_0 : decode prog_7_method_34_code 0 = .ok (.iload_n 2, 1) := by decide +kernel
theorem dd_Mo_branchAt_1 : decode prog_7_method_34_code 1 = .ok (.iconst 1, 1) := by decide +kernel
theorem dd_Mo_branchAt_2 : decode prog_7_method_34_code 2 = .ok (.iadd, 1) := by decide +kernel
theorem dd_Mo_branchAt_3 : decode prog_7_method_34_code 3 = .ok (.bipush 24, 2) := by decide +kernel
theorem dd_Mo_branchAt_5 : decode prog_7_method_34_code 5 = .ok (.iload_n 1, 1) := by decide +kernel
theorem dd_Mo_branchAt_6 : decode prog_7_method_34_code 6 = .ok (.imul, 1) := by decide +kernel
theorem dd_Mo_branchAt_7 : decode prog_7_method_34_code 7 = .ok (.aload_n 0, 1) := by decide +kernel
theorem dd_Mo_branchAt_8 : decode prog_7_method_34_code 8 = .ok (.getfield 13, 3) := by decide +kernel
theorem dd_Mo_branchAt_11 : decode prog_7_method_34_code 11 = .ok (.iload_n 1, 1) := by decide +kernel
theorem dd_Mo_branchAt_12 : decode prog_7_method_34_code 12 = .ok (.iaload, 1) := by decide +kernel
theorem dd_Mo_branchAt_13 : decode prog_7_method_34_code 13 = .ok (.iadd, 1) := by decide +kernel
theorem dd_Mo_branchAt_14 : decode prog_7_method_34_code 14 = .ok (.if_icmp .ge (14), 3) := by decide +kernel
theorem dd_Mo_branchAt_17 : decode prog_7_method_34_code 17 = .ok (.aload_n 0, 1) := by decide +kernel
theorem dd_Mo_branchAt_18 : decode prog_7_method_34_code 18 = .ok (.getfield 41, 3) := by decide +kernel
theorem dd_Mo_branchAt_21 : decode prog_7_method_34_code 21 = .ok (.iload_n 2, 1) := by decide +kernel
theorem dd_Mo_branchAt_22 : decode prog_7_method_34_code 22 = .ok (.iconst 1, 1) := by decide +kernel
theorem dd_Mo_branchAt_23 : decode prog_7_method_34_code 23 = .ok (.iadd, 1) := by decide +kernel
theorem dd_Mo_branchAt_24 : decode prog_7_method_34_code 24 = .ok (.iaload, 1) := by decide +kernel
theorem dd_Mo_branchAt_25 : decode prog_7_method_34_code 25 = .ok (.goto (32), 3) := by decide +kernel
theorem dd_Mo_branchAt_28 : decode prog_7_method_34_code 28 = .ok (.iload_n 1, 1) := by decide +kernel
theorem dd_Mo_branchAt_29 : decode prog_7_method_34_code 29 = .ok (.iconst 1, 1) := by decide +kernel
theorem dd_Mo_branchAt_30 : decode prog_7_method_34_code 30 = .ok (.iadd, 1) := by decide +kernel
theorem dd_Mo_branchAt_31 : decode prog_7_method_34_code 31 = .ok (.aload_n 0, 1) := by decide +kernel
theorem dd_Mo_branchAt_32 : decode prog_7_method_34_code 32 = .ok (.getfield 72, 3) := by decide +kernel
theorem dd_Mo_branchAt_35 : decode prog_7_method_34_code 35 = .ok (.if_icmp .ge (18), 3) := by decide +kernel
theorem dd_Mo_branchAt_38 : decode prog_7_method_34_code 38 = .ok (.aload_n 0, 1) := by decide +kernel
theorem dd_Mo_branchAt_39 : decode prog_7_method_34_code 39 = .ok (.getfield 41, 3) := by decide +kernel
theorem dd_Mo_branchAt_42 : decode prog_7_method_34_code 42 = .ok (.bipush 24, 2) := by decide +kernel
theorem dd_Mo_branchAt_44 : decode prog_7_method_34_code 44 = .ok (.iload_n 1, 1) := by decide +kernel
theorem dd_Mo_branchAt_45 : decode prog_7_method_34_code 45 = .ok (.imul, 1) := by decide +kernel
theorem dd_Mo_branchAt_46 : decode prog_7_method_34_code 46 = .ok (.bipush 24, 2) := by decide +kernel
theorem dd_Mo_branchAt_48 : decode prog_7_method_34_code 48 = .ok (.iadd, 1) := by decide +kernel
theorem dd_Mo_branchAt_49 : decode prog_7_method_34_code 49 = .ok (.iaload, 1) := by decide +kernel
theorem dd_Mo_branchAt_50 : decode prog_7_method_34_code 50 = .ok (.goto (7), 3) := by decide +kernel
theorem dd_Mo_branchAt_53 : decode prog_7_method_34_code 53 = .ok (.aload_n 0, 1) := by decide +kernel
theorem dd_Mo_branchAt_54 : decode prog_7_method_34_code 54 = .ok (.getfield 109, 3) := by decide +kernel
theorem dd_Mo_branchAt_57 : decode prog_7_method_34_code 57 = .ok (.istore_n 3, 1) := by decide +kernel
theorem dd_Mo_branchAt_58 : decode prog_7_method_34_code 58 = .ok (.aload_n 0, 1) := by decide +kernel
theorem dd_Mo_branchAt_59 : decode prog_7_method_34_code 59 = .ok (.getfield 47, 3) := by decide +kernel
theorem dd_Mo_branchAt_62 : decode prog_7_method_34_code 62 = .ok (.iload_n 2, 1) := by decide +kernel
theorem dd_Mo_branchAt_63 : decode prog_7_method_34_code 63 = .ok (.baload, 1) := by decide +kernel
theorem dd_Mo_branchAt_64 : decode prog_7_method_34_code 64 = .ok (.ifCond .eq (9), 3) := by decide +kernel
theorem dd_Mo_branchAt_67 : decode prog_7_method_34_code 67 = .ok (.iload_n 3, 1) := by decide +kernel
theorem dd_Mo_branchAt_68 : decode prog_7_method_34_code 68 = .ok (.iconst 5, 1) := by decide +kernel
theorem dd_Mo_branchAt_69 : decode prog_7_method_34_code 69 = .ok (.isub, 1) := by decide +kernel
theorem dd_Mo_branchAt_70 : decode prog_7_method_34_code 70 = .ok (.goto (6), 3) := by decide +kernel
theorem dd_Mo_branchAt_73 : decode prog_7_method_34_code 73 = .ok (.iload_n 3, 1) := by decide +kernel
theorem dd_Mo_branchAt_74 : decode prog_7_method_34_code 74 = .ok (.iconst 2, 1) := by decide +kernel
theorem dd_Mo_branchAt_75 : decode prog_7_method_34_code 75 = .ok (.isub, 1) := by decide +kernel
theorem dd_Mo_branchAt_76 : decode prog_7_method_34_code 76 = .ok (.ireturn, 1) := by decide +kernel
theorem dd_Mo_stretched_0 : decode prog_7_method_35_code 0 = .ok (.iconst 0, 1) := by decide +kernel
theorem dd_Mo_stretched_1 : decode prog_7_method_35_code 1 = .ok (.istore_n 1, 1) := by decide +kernel
theorem dd_Mo_stretched_2 : decode prog_7_method_35_code 2 = .ok (.iconst 0, 1) := by decide +kernel
theorem dd_Mo_stretched_3 : decode prog_7_method_35_code 3 = .ok (.istore_n 2, 1) := by decide +kernel
theorem dd_Mo_stretched_4 : decode prog_7_method_35_code 4 = .ok (.iload_n 2, 1) := by decide +kernel
theorem dd_Mo_stretched_5 : decode prog_7_method_35_code 5 = .ok (.aload_n 0, 1) := by decide +kernel
theorem dd_Mo_stretched_6 : decode prog_7_method_35_code 6 = .ok (.getfield 72, 3) := by decide +kernel
theorem dd_Mo_stretched_9 : decode prog_7_method_35_code 9 = .ok (.if_icmp .ge (111), 3) := by decide +kernel
theorem dd_Mo_stretched_12 : decode prog_7_method_35_code 12 = .ok (.bipush 24, 2) := by decide +kernel
theorem dd_Mo_stretched_14 : decode prog_7_method_35_code 14 = .ok (.iload_n 2, 1) := by decide +kernel
theorem dd_Mo_stretched_15 : decode prog_7_method_35_code 15 = .ok (.imul, 1) := by decide +kernel
theorem dd_Mo_stretched_16 : decode prog_7_method_35_code 16 = .ok (.istore_n 3, 1) := by decide +kernel
theorem dd_Mo_stretched_17 : decode prog_7_method_35_code 17 = .ok (.iload_n 3, 1) := by decide +kernel
theorem dd_Mo_stretched_18 : decode prog_7_method_35_code 18 = .ok (.bipush 24, 2) := by decide +kernel
theorem dd_Mo_stretched_20 : decode prog_7_method_35_code 20 = .ok (.iload_n 2, 1) := by decide +kernel
theorem dd_Mo_stretched_21 : decode prog_7_method_35_code 21 = .ok (.imul, 1) := by decide +kernel
theorem dd_Mo_stretched_22 : decode prog_7_method_35_code 22 = .ok (.aload_n 0, 1) := by decide +kernel
theorem dd_Mo_stretched_23 : decode prog_7_method_35_code 23 = .ok (.getfield 13, 3) := by decide +kernel
theorem dd_Mo_stretched_26 : decode prog_7_method_35_code 26 = .ok (.iload_n 2, 1) := by decide +kernel
theorem dd_Mo_stretched_27 : decode prog_7_method_35_code 27 = .ok (.iaload, 1) := by decide +kernel
theorem dd_Mo_stretched_28 : decode prog_7_method_35_code 28 = .ok (.iadd, 1) := by decide +kernel
theorem dd_Mo_stretched_29 : decode prog_7_method_35_code 29 = .ok (.if_icmp .ge (85), 3) := by decide +kernel
theorem dd_Mo_stretched_32 : decode prog_7_method_35_code 32 = .ok (.aload_n 0, 1) := by decide +kernel
theorem dd_Mo_stretched_33 : decode prog_7_method_35_code 33 = .ok (.getfield 19, 3) := by decide +kernel
theorem dd_Mo_stretched_36 : decode prog_7_method_35_code 36 = .ok (.iload_n 3, 1) := by decide +kernel
theorem dd_Mo_stretched_37 : decode prog_7_method_35_code 37 = .ok (.iaload, 1) := by decide +kernel
theorem dd_Mo_stretched_38 : decode prog_7_method_35_code 38 = .ok (.invokestatic 95, 3) := by decide +kernel
theorem dd_Mo_stretched_41 : decode prog_7_method_35_code 41 = .ok (.ifCond .eq (67), 3) := by decide +kernel
theorem dd_Mo_stretched_44 : decode prog_7_method_35_code 44 = .ok (.aload_n 0, 1) := by decide +kernel
theorem dd_Mo_stretched_45 : decode prog_7_method_35_code 45 = .ok (.getfield 47, 3) := by decide +kernel
theorem dd_Mo_stretched_48 : decode prog_7_method_35_code 48 = .ok (.iload_n 3, 1) := by decide +kernel
theorem dd_Mo_stretched_49 : decode prog_7_method_35_code 49 = .ok (.baload, 1) := by decide +kernel
theorem dd_Mo_stretched_50 : decode prog_7_method_35_code 50 = .ok (.ifCond .eq (6), 3) := by decide +kernel
theorem dd_Mo_stretched_53 : decode prog_7_method_35_code 53 = .ok (.goto (55), 3) := by decide +kernel
theorem dd_Mo_stretched_56 : decode prog_7_method_35_code 56 = .ok (.aload_n 0, 1) := by decide +kernel
theorem dd_Mo_stretched_57 : decode prog_7_method_35_code 57 = .ok (.getfield 41, 3) := by decide +kernel
theorem dd_Mo_stretched_60 : decode prog_7_method_35_code 60 = .ok (.bipush 24, 2) := by decide +kernel
theorem dd_Mo_stretched_62 : decode prog_7_method_35_code 62 = .ok (.iload_n 2, 1) := by decide +kernel
theorem dd_Mo_stretched_63 : decode prog_7_method_35_code 63 = .ok (.imul, 1) := by decide +kernel
theorem dd_Mo_stretched_64 : decode prog_7_method_35_code 64 = .ok (.aload_n 0, 1) := by decide +kernel
theorem dd_Mo_stretched_65 : decode prog_7_method_35_code 65 = .ok (.iload_n 3, 1) := by decide +kernel
theorem dd_Mo_stretched_66 : decode prog_7_method_35_code 66 = .ok (.invokevirtual 98, 3) := by decide +kernel
theorem dd_Mo_stretched_69 : decode prog_7_method_35_code 69 = .ok (.iadd, 1) := by decide +kernel
theorem dd_Mo_stretched_70 : decode prog_7_method_35_code 70 = .ok (.iaload, 1) := by decide +kernel
theorem dd_Mo_stretched_71 : decode prog_7_method_35_code 71 = .ok (.aload_n 0, 1) := by decide +kernel
theorem dd_Mo_stretched_72 : decode prog_7_method_35_code 72 = .ok (.iload_n 2, 1) := by decide +kernel
theorem dd_Mo_stretched_73 : decode prog_7_method_35_code 73 = .ok (.iload_n 3, 1) := by decide +kernel
theorem dd_Mo_stretched_74 : decode prog_7_method_35_code 74 = .ok (.invokevirtual 166, 3) := by decide +kernel
theorem dd_Mo_stretched_77 : decode prog_7_method_35_code 77 = .ok (.isub, 1) := by decide +kernel
theorem dd_Mo_stretched_78 : decode prog_7_method_35_code 78 = .ok (.iconst 2, 1) := by decide +kernel
theorem dd_Mo_stretched_79 : decode prog_7_method_35_code 79 = .ok (.isub, 1) := by decide +kernel
theorem dd_Mo_stretched_80 : decode prog_7_method_35_code 80 = .ok (.istore 4, 2) := by decide +kernel
theorem dd_Mo_stretched_82 : decode prog_7_method_35_code 82 = .ok (.iload 4, 2) := by decide +kernel
theorem dd_Mo_stretched_84 : decode prog_7_method_35_code 84 = .ok (.bipush (-128), 2) := by decide +kernel
theorem dd_Mo_stretched_86 : decode prog_7_method_35_code 86 = .ok (.if_icmp .lt (13), 3) := by decide +kernel
theorem dd_Mo_stretched_89 : decode prog_7_method_35_code 89 = .ok (.iload 4, 2) := by decide +kernel
theorem dd_Mo_stretched_91 : decode prog_7_method_35_code 91 = .ok (.bipush 127, 2) := by decide +kernel
theorem dd_Mo_stretched_93 : decode prog_7_method_35_code 93 = .ok (.if_icmp .gt (6), 3) := by decide +kernel
theorem dd_Mo_stretched_96 : decode prog_7_method_35_code 96 = .ok (.goto (12), 3) := by decide +kernel
theorem dd_Mo_stretched_99 : decode prog_7_method_35_code 99 = .ok (.aload_n 0, 1) := by decide +kernel
theorem dd_Mo_stretched_100 : decode prog_7_method_35_code 100 = .ok (.getfield 47, 3) := by decide +kernel
theorem dd_Mo_stretched_103 : decode prog_7_method_35_code 103 = .ok (.iload_n 3, 1) := by decide +kernel
theorem dd_Mo_stretched_104 : decode prog_7_method_35_code 104 = .ok (.iconst 1, 1) := by decide +kernel
theorem dd_Mo_stretched_105 : decode prog_7_method_35_code 105 = .ok (.bastore, 1) := by decide +kernel
theorem dd_Mo_stretched_106 : decode prog_7_method_35_code 106 = .ok (.iconst 1, 1) := by decide +kernel
theorem dd_Mo_stretched_107 : decode prog_7_method_35_code 107 = .ok (.istore_n 1, 1) := by decide +kernel
theorem dd_Mo_stretched_108 : decode prog_7_method_35_code 108 = .ok (.iinc 3 1, 3) := by decide +kernel
theorem dd_Mo_stretched_111 : decode prog_7_method_35_code 111 = .ok (.goto (-94), 3) := by decide +kernel
theorem dd_Mo_stretched_114 : decode prog_7_method_35_code 114 = .ok (.iinc 2 1, 3) := by decide +kernel
theorem dd_Mo_stretched_117 : decode prog_7_method_35_code 117 = .ok (.goto (-113), 3) := by decide +kernel
theorem dd_Mo_stretched_120 : decode prog_7_method_35_code 120 = .ok (.iload_n 1, 1) := by decide +kernel
theorem dd_Mo_stretched_121 : decode prog_7_method_35_code 121 = .ok (.ireturn, 1) := by decide +kernel
theorem dd_Mo_compile_0 : decode prog_7_method_36_code 0 = .ok (.aload_n 0, 1) := by decide +kernel
theorem dd_Mo_compile_1 : decode prog_7_method_36_code 1 = .ok (.invokevirtual 76, 3) := by decide +kernel
theorem dd_Mo_compile_4 : decode prog_7_method_36_code 4 = .ok (.aload_n 0, 1) := by decide +kernel
theorem dd_Mo_compile_5 : decode prog_7_method_36_code 5 = .ok (.invokevirtual 169, 3) := by decide +kernel
theorem dd_Mo_compile_8 : decode prog_7_method_36_code 8 = .ok (.ifCond .ne (5), 3) := by decide +kernel
theorem dd_Mo_compile_11 : decode prog_7_method_36_code 11 = .ok (.iconst 1, 1) := by decide +kernel
theorem dd_Mo_compile_12 : decode prog_7_method_36_code 12 = .ok (.ireturn, 1) := by decide +kernel
theorem dd_Mo_compile_13 : decode prog_7_method_36_code 13 = .ok (.aload_n 0, 1) := by decide +kernel
theorem dd_Mo_compile_14 : decode prog_7_method_36_code 14 = .ok (.invokevirtual 173, 3) := by decide +kernel
theorem dd_Mo_compile_17 : decode prog_7_method_36_code 17 = .ok (.ifCond .ne (5), 3) := by decide +kernel
theorem dd_Mo_compile_20 : decode prog_7_method_36_code 20 = .ok (.iconst 2, 1) := by decide +kernel
theorem dd_Mo_compile_21 : decode prog_7_method_36_code 21 = .ok (.ireturn, 1) := by decide +kernel
theorem dd_Mo_compile_22 : decode prog_7_method_36_code 22 = .ok (.aload_n 0, 1) := by decide +kernel
theorem dd_Mo_compile_23 : decode prog_7_method_36_code 23 = .ok (.invokevirtual 176, 3) := by decide +kernel
theorem dd_Mo_compile_26 : decode prog_7_method_36_code 26 = .ok (.ifCond .ne (5), 3) := by decide +kernel
theorem dd_Mo_compile_29 : decode prog_7_method_36_code 29 = .ok (.iconst 3, 1) := by decide +kernel
theorem dd_Mo_compile_30 : decode prog_7_method_36_code 30 = .ok (.ireturn, 1) := by decide +kernel
theorem dd_Mo_compile_31 : decode prog_7_method_36_code 31 = .ok (.aload_n 0, 1) := by decide +kernel
theorem dd_Mo_compile_32 : decode prog_7_method_36_code 32 = .ok (.invokevirtual 179, 3) := by decide +kernel
theorem dd_Mo_compile_35 : decode prog_7_method_36_code 35 = .ok (.ifCond .eq (5), 3) := by decide +kernel
theorem dd_Mo_compile_38 : decode prog_7_method_36_code 38 = .ok (.iconst 4, 1) := by decide +kernel
theorem dd_Mo_compile_39 : decode prog_7_method_36_code 39 = .ok (.ireturn, 1) := by decide +kernel
theorem dd_Mo_compile_40 : decode prog_7_method_36_code 40 = .ok (.aload_n 0, 1) := by decide +kernel
theorem dd_Mo_compile_41 : decode prog_7_method_36_code 41 = .ok (.invokevirtual 182, 3) := by decide +kernel
theorem dd_Mo_compile_44 : decode prog_7_method_36_code 44 = .ok (.ifCond .ne (5), 3) := by decide +kernel
theorem dd_Mo_compile_47 : decode prog_7_method_36_code 47 = .ok (.iconst 5, 1) := by decide +kernel
theorem dd_Mo_compile_48 : decode prog_7_method_36_code 48 = .ok (.ireturn, 1) := by decide +kernel
theorem dd_Mo_compile_49 : decode prog_7_method_36_code 49 = .ok (.iconst 0, 1) := by decide +kernel
theorem dd_Mo_compile_50 : decode prog_7_method_36_code 50 = .ok (.istore_n 1, 1) := by decide +kernel
theorem dd_Mo_compile_51 : decode prog_7_method_36_code 51 = .ok (.iload_n 1, 1) := by decide +kernel
theorem dd_Mo_compile_52 : decode prog_7_method_36_code 52 = .ok (.sipush 144, 3) := by decide +kernel
theorem dd_Mo_compile_55 : decode prog_7_method_36_code 55 = .ok (.if_icmp .ge (16), 3) := by decide +kernel
theorem dd_Mo_compile_58 : decode prog_7_method_36_code 58 = .ok (.aload_n 0, 1) := by decide +kernel
theorem dd_Mo_compile_59 : decode prog_7_method_36_code 59 = .ok (.getfield 47, 3) := by decide +kernel
theorem dd_Mo_compile_62 : decode prog_7_method_36_code 62 = .ok (.iload_n 1, 1) := by decide +kernel
theorem dd_Mo_compile_63 : decode prog_7_method_36_code 63 = .ok (.iconst 0, 1) := by decide +kernel
theorem dd_Mo_compile_64 : decode prog_7_method_36_code 64 = .ok (.bastore, 1) := by decide +kernel
theorem dd_Mo_compile_65 : decode prog_7_method_36_code 65 = .ok (.iinc 1 1, 3) := by decide +kernel
theorem dd_Mo_compile_68 : decode prog_7_method_36_code 68 = .ok (.goto (-17), 3) := by decide +kernel
theorem dd_Mo_compile_71 : decode prog_7_method_36_code 71 = .ok (.aload_n 0, 1) := by decide +kernel
theorem dd_Mo_compile_72 : decode prog_7_method_36_code 72 = .ok (.invokevirtual 185, 3) := by decide +kernel
theorem dd_Mo_compile_75 : decode prog_7_method_36_code 75 = .ok (.iconst 0, 1) := by decide +kernel
theorem dd_Mo_compile_76 : decode prog_7_method_36_code 76 = .ok (.istore_n 1, 1) := by decide +kernel
theorem dd_Mo_compile_77 : decode prog_7_method_36_code 77 = .ok (.iload_n 1, 1) := by decide +kernel
theorem dd_Mo_compile_78 : decode prog_7_method_36_code 78 = .ok (.bipush 62, 2) := by decide +kernel
theorem dd_Mo_compile_80 : decode prog_7_method_36_code 80 = .ok (.if_icmp .ge (20), 3) := by decide +kernel
theorem dd_Mo_compile_83 : decode prog_7_method_36_code 83 = .ok (.aload_n 0, 1) := by decide +kernel
theorem dd_Mo_compile_84 : decode prog_7_method_36_code 84 = .ok (.invokevirtual 188, 3) := by decide +kernel
theorem dd_Mo_compile_87 : decode prog_7_method_36_code 87 = .ok (.ifCond .eq (13), 3) := by decide +kernel
theorem dd_Mo_compile_90 : decode prog_7_method_36_code 90 = .ok (.aload_n 0, 1) := by decide +kernel
theorem dd_Mo_compile_91 : decode prog_7_method_36_code 91 = .ok (.invokevirtual 185, 3) := by decide +kernel
theorem dd_Mo_compile_94 : decode prog_7_method_36_code 94 = .ok (.iinc 1 1, 3) := by decide +kernel
theorem dd_Mo_compile_97 : decode prog_7_method_36_code 97 = .ok (.goto (-20), 3) := by decide +kernel
theorem dd_Mo_compile_100 : decode prog_7_method_36_code 100 = .ok (.aload_n 0, 1) := by decide +kernel
theorem dd_Mo_compile_101 : decode prog_7_method_36_code 101 = .ok (.invokevirtual 185, 3) := by decide +kernel
theorem dd_Mo_compile_104 : decode prog_7_method_36_code 104 = .ok (.aload_n 0, 1) := by decide +kernel
theorem dd_Mo_compile_105 : decode prog_7_method_36_code 105 = .ok (.iconst 0, 1) := by decide +kernel
theorem dd_Mo_compile_106 : decode prog_7_method_36_code 106 = .ok (.putfield 191, 3) := by decide +kernel
theorem dd_Mo_compile_109 : decode prog_7_method_36_code 109 = .ok (.iconst 0, 1) := by decide +kernel
theorem dd_Mo_compile_110 : decode prog_7_method_36_code 110 = .ok (.istore_n 1, 1) := by decide +kernel
theorem dd_Mo_compile_111 : decode prog_7_method_36_code 111 = .ok (.iload_n 1, 1) := by decide +kernel
theorem dd_Mo_compile_112 : decode prog_7_method_36_code 112 = .ok (.sipush 144, 3) := by decide +kernel
theorem dd_Mo_compile_115 : decode prog_7_method_36_code 115 = .ok (.if_icmp .ge (32), 3) := by decide +kernel
theorem dd_Mo_compile_118 : decode prog_7_method_36_code 118 = .ok (.aload_n 0, 1) := by decide +kernel
theorem dd_Mo_compile_119 : decode prog_7_method_36_code 119 = .ok (.dup, 1) := by decide +kernel
theorem dd_Mo_compile_120 : decode prog_7_method_36_code 120 = .ok (.getfield 191, 3) := by decide +kernel
theorem dd_Mo_compile_123 : decode prog_7_method_36_code 123 = .ok (.aload_n 0, 1) := by decide +kernel
theorem dd_Mo_compile_124 : decode prog_7_method_36_code 124 = .ok (.getfield 47, 3) := by decide +kernel
theorem dd_Mo_compile_127 : decode prog_7_method_36_code 127 = .ok (.iload_n 1, 1) := by decide +kernel
theorem dd_Mo_compile_128 : decode prog_7_method_36_code 128 = .ok (.baload, 1) := by decide +kernel
theorem dd_Mo_compile_129 : decode prog_7_method_36_code 129 = .ok (.ifCond .eq (7), 3) := by decide +kernel
theorem dd_Mo_compile_132 : decode prog_7_method_36_code 132 = .ok (.iconst 1, 1) := by decide +kernel
theorem dd_Mo_compile_133 : decode prog_7_method_36_code 133 = .ok (.goto (4), 3) := by decide +kernel
theorem dd_Mo_compile_136 : decode prog_7_method_36_code 136 = .ok (.iconst 0, 1) := by decide +kernel
theorem dd_Mo_compile_137 : decode prog_7_method_36_code 137 = .ok (.iadd, 1) := by decide +kernel
theorem dd_Mo_compile_138 : decode prog_7_method_36_code 138 = .ok (.putfield 191, 3) := by decide +kernel
theorem dd_Mo_compile_141 : decode prog_7_method_36_code 141 = .ok (.iinc 1 1, 3) := by decide +kernel
theorem dd_Mo_compile_144 : decode prog_7_method_36_code 144 = .ok (.goto (-33), 3) := by decide +kernel
theorem dd_Mo_compile_147 : decode prog_7_method_36_code 147 = .ok (.aload_n 0, 1) := by decide +kernel
theorem dd_Mo_compile_148 : decode prog_7_method_36_code 148 = .ok (.aload_n 0, 1) := by decide +kernel
theorem dd_Mo_compile_149 : decode prog_7_method_36_code 149 = .ok (.getfield 109, 3) := by decide +kernel
theorem dd_Mo_compile_152 : decode prog_7_method_36_code 152 = .ok (.sipush 500, 3) := by decide +kernel
theorem dd_Mo_compile_155 : decode prog_7_method_36_code 155 = .ok (.if_icmp .gt (7), 3) := by decide +kernel
theorem dd_Mo_compile_158 : decode prog_7_method_36_code 158 = .ok (.iconst 1, 1) := by decide +kernel
theorem dd_Mo_compile_159 : decode prog_7_method_36_code 159 = .ok (.goto (4), 3) := by decide +kernel
theorem dd_Mo_compile_162 : decode prog_7_method_36_code 162 = .ok (.iconst 0, 1) := by decide +kernel
theorem dd_Mo_compile_163 : decode prog_7_method_36_code 163 = .ok (.putfield 65, 3) := by decide +kernel
theorem dd_Mo_compile_166 : decode prog_7_method_36_code 166 = .ok (.aload_n 0, 1) := by decide +kernel
theorem dd_Mo_compile_167 : decode prog_7_method_36_code 167 = .ok (.getfield 65, 3) := by decide +kernel
theorem dd_Mo_compile_170 : decode prog_7_method_36_code 170 = .ok (.ifCond .eq (7), 3) := by decide +kernel
theorem dd_Mo_compile_173 : decode prog_7_method_36_code 173 = .ok (.iconst 0, 1) := by decide +kernel
theorem dd_Mo_compile_174 : decode prog_7_method_36_code 174 = .ok (.goto (5), 3) := by decide +kernel
theorem dd_Mo_compile_177 : decode prog_7_method_36_code 177 = .ok (.bipush 6, 2) := by decide +kernel
theorem dd_Mo_compile_179 : decode prog_7_method_36_code 179 = .ok (.ireturn, 1) := by decide +kernel
theorem dd_Mo_length_0 : decode prog_7_method_37_code 0 = .ok (.aload_n 0, 1) := by decide +kernel
theorem dd_Mo_length_1 : decode prog_7_method_37_code 1 = .ok (.getfield 65, 3) := by decide +kernel
theorem dd_Mo_length_4 : decode prog_7_method_37_code 4 = .ok (.ifCond .eq (10), 3) := by decide +kernel
theorem dd_Mo_length_7 : decode prog_7_method_37_code 7 = .ok (.aload_n 0, 1) := by decide +kernel
theorem dd_Mo_length_8 : decode prog_7_method_37_code 8 = .ok (.getfield 109, 3) := by decide +kernel
theorem dd_Mo_length_11 : decode prog_7_method_37_code 11 = .ok (.goto (4), 3) := by decide +kernel
theorem dd_Mo_length_14 : decode prog_7_method_37_code 14 = .ok (.iconst 0, 1) := by decide +kernel
theorem dd_Mo_length_15 : decode prog_7_method_37_code 15 = .ok (.ireturn, 1) := by decide +kernel
theorem dd_Mo_code_0 : decode prog_7_method_38_code 0 = .ok (.aload_n 0, 1) := by decide +kernel
theorem dd_Mo_code_1 : decode prog_7_method_38_code 1 = .ok (.getfield 65, 3) := by decide +kernel
theorem dd_Mo_code_4 : decode prog_7_method_38_code 4 = .ok (.ifCond .eq (24), 3) := by decide +kernel
theorem dd_Mo_code_7 : decode prog_7_method_38_code 7 = .ok (.iload_n 1, 1) := by decide +kernel
theorem dd_Mo_code_8 : decode prog_7_method_38_code 8 = .ok (.ifCond .lt (20), 3) := by decide +kernel
theorem dd_Mo_code_11 : decode prog_7_method_38_code 11 = .ok (.iload_n 1, 1) := by decide +kernel
theorem dd_Mo_code_12 : decode prog_7_method_38_code 12 = .ok (.aload_n 0, 1) := by decide +kernel
theorem dd_Mo_code_13 : decode prog_7_method_38_code 13 = .ok (.getfield 109, 3) := by decide +kernel
theorem dd_Mo_code_16 : decode prog_7_method_38_code 16 = .ok (.if_icmp .ge (12), 3) := by decide +kernel
theorem dd_Mo_code_19 : decode prog_7_method_38_code 19 = .ok (.aload_n 0, 1) := by decide +kernel
theorem dd_Mo_code_20 : decode prog_7_method_38_code 20 = .ok (.getfield 38, 3) := by decide +kernel
theorem dd_Mo_code_23 : decode prog_7_method_38_code 23 = .ok (.iload_n 1, 1) := by decide +kernel
theorem dd_Mo_code_24 : decode prog_7_method_38_code 24 = .ok (.iaload, 1) := by decide +kernel
theorem dd_Mo_code_25 : decode prog_7_method_38_code 25 = .ok (.goto (4), 3) := by decide +kernel
theorem dd_Mo_code_28 : decode prog_7_method_38_code 28 = .ok (.iconst (-1), 1) := by decide +kernel
theorem dd_Mo_code_29 : decode prog_7_method_38_code 29 = .ok (.ireturn, 1) := by decide +kernel
theorem dd_Mo_longs_0 : decode prog_7_method_39_code 0 = .ok (.aload_n 0, 1) := by decide +kernel
theorem dd_Mo_longs_1 : decode prog_7_method_39_code 1 = .ok (.getfield 65, 3) := by decide +kernel
theorem dd_Mo_longs_4 : decode prog_7_method_39_code 4 = .ok (.ifCond .eq (10), 3) := by decide +kernel
theorem dd_Mo_longs_7 : decode prog_7_method_39_code 7 = .ok (.aload_n 0, 1) := by decide +kernel
theorem dd_Mo_longs_8 : decode prog_7_method_39_code 8 = .ok (.getfield 191, 3) := by decide +kernel
theorem dd_Mo_longs_11 : decode prog_7_method_39_code 11 = .ok (.goto (4), 3) := by decide +kernel
theorem dd_Mo_longs_14 : decode prog_7_method_39_code 14 = .ok (.iconst 0, 1) := by decide +kernel
theorem dd_Mo_longs_15 : decode prog_7_method_39_code 15 = .ok (.ireturn, 1) := by decide +kernel
