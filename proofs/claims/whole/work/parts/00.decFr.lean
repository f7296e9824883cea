theorem dd_Fr_gatherCalls_0 : decode prog_3_method_2_code 0 = .ok (.iconst 0, 1) := by decide +kernel
theorem dd_Fr_gatherCalls_1 : decode prog_3_method_2_code 1 = .ok (.istore_n 1, 1) := by decide +kernel
theorem dd_Fr_gatherCalls_2 : decode prog_3_method_2_code 2 = .ok (.iload_n 1, 1) := by decide +kernel
theorem dd_Fr_gatherCalls_3 : decode prog_3_method_2_code 3 = .ok (.aload_n 0, 1) := by decide +kernel
theorem dd_Fr_gatherCalls_4 : decode prog_3_method_2_code 4 = .ok (.getfield 9, 3) := by decide +kernel
theorem dd_Fr_gatherCalls_7 : decode prog_3_method_2_code 7 = .ok (.arraylength, 1) := by decide +kernel
theorem dd_Fr_gatherCalls_8 : decode prog_3_method_2_code 8 = .ok (.if_icmp .ge (16), 3) := by decide +kernel
theorem dd_Fr_gatherCalls_11 : decode prog_3_method_2_code 11 = .ok (.aload_n 0, 1) := by decide +kernel
theorem dd_Fr_gatherCalls_12 : decode prog_3_method_2_code 12 = .ok (.getfield 9, 3) := by decide +kernel
theorem dd_Fr_gatherCalls_15 : decode prog_3_method_2_code 15 = .ok (.iload_n 1, 1) := by decide +kernel
theorem dd_Fr_gatherCalls_16 : decode prog_3_method_2_code 16 = .ok (.iconst 0, 1) := by decide +kernel
theorem dd_Fr_gatherCalls_17 : decode prog_3_method_2_code 17 = .ok (.bastore, 1) := by decide +kernel
theorem dd_Fr_gatherCalls_18 : decode prog_3_method_2_code 18 = .ok (.iinc 1 1, 3) := by decide +kernel
theorem dd_Fr_gatherCalls_21 : decode prog_3_method_2_code 21 = .ok (.goto (-19), 3) := by decide +kernel
theorem dd_Fr_gatherCalls_24 : decode prog_3_method_2_code 24 = .ok (.iconst 0, 1) := by decide +kernel
theorem dd_Fr_gatherCalls_25 : decode prog_3_method_2_code 25 = .ok (.istore_n 1, 1) := by decide +kernel
theorem dd_Fr_gatherCalls_26 : decode prog_3_method_2_code 26 = .ok (.iload_n 1, 1) := by decide +kernel
theorem dd_Fr_gatherCalls_27 : decode prog_3_method_2_code 27 = .ok (.aload_n 0, 1) := by decide +kernel
theorem dd_Fr_gatherCalls_28 : decode prog_3_method_2_code 28 = .ok (.getfield 27, 3) := by decide +kernel
theorem dd_Fr_gatherCalls_31 : decode prog_3_method_2_code 31 = .ok (.getfield 31, 3) := by decide +kernel
theorem dd_Fr_gatherCalls_34 : decode prog_3_method_2_code 34 = .ok (.if_icmp .ge (51), 3) := by decide +kernel
theorem dd_Fr_gatherCalls_37 : decode prog_3_method_2_code 37 = .ok (.aload_n 0, 1) := by decide +kernel
theorem dd_Fr_gatherCalls_38 : decode prog_3_method_2_code 38 = .ok (.getfield 27, 3) := by decide +kernel
theorem dd_Fr_gatherCalls_41 : decode prog_3_method_2_code 41 = .ok (.getfield 37, 3) := by decide +kernel
theorem dd_Fr_gatherCalls_44 : decode prog_3_method_2_code 44 = .ok (.iload_n 1, 1) := by decide +kernel
theorem dd_Fr_gatherCalls_45 : decode prog_3_method_2_code 45 = .ok (.iaload, 1) := by decide +kernel
theorem dd_Fr_gatherCalls_46 : decode prog_3_method_2_code 46 = .ok (.bipush 13, 2) := by decide +kernel
theorem dd_Fr_gatherCalls_48 : decode prog_3_method_2_code 48 = .ok (.if_icmp .ne (31), 3) := by decide +kernel
theorem dd_Fr_gatherCalls_51 : decode prog_3_method_2_code 51 = .ok (.aload_n 0, 1) := by decide +kernel
theorem dd_Fr_gatherCalls_52 : decode prog_3_method_2_code 52 = .ok (.getfield 9, 3) := by decide +kernel
theorem dd_Fr_gatherCalls_55 : decode prog_3_method_2_code 55 = .ok (.bipush 6, 2) := by decide +kernel
theorem dd_Fr_gatherCalls_57 : decode prog_3_method_2_code 57 = .ok (.aload_n 0, 1) := by decide +kernel
theorem dd_Fr_gatherCalls_58 : decode prog_3_method_2_code 58 = .ok (.getfield 27, 3) := by decide +kernel
theorem dd_Fr_gatherCalls_61 : decode prog_3_method_2_code 61 = .ok (.getfield 40, 3) := by decide +kernel
theorem dd_Fr_gatherCalls_64 : decode prog_3_method_2_code 64 = .ok (.iload_n 1, 1) := by decide +kernel
theorem dd_Fr_gatherCalls_65 : decode prog_3_method_2_code 65 = .ok (.iaload, 1) := by decide +kernel
theorem dd_Fr_gatherCalls_66 : decode prog_3_method_2_code 66 = .ok (.imul, 1) := by decide +kernel
theorem dd_Fr_gatherCalls_67 : decode prog_3_method_2_code 67 = .ok (.aload_n 0, 1) := by decide +kernel
theorem dd_Fr_gatherCalls_68 : decode prog_3_method_2_code 68 = .ok (.getfield 27, 3) := by decide +kernel
theorem dd_Fr_gatherCalls_71 : decode prog_3_method_2_code 71 = .ok (.getfield 43, 3) := by decide +kernel
theorem dd_Fr_gatherCalls_74 : decode prog_3_method_2_code 74 = .ok (.iload_n 1, 1) := by decide +kernel
theorem dd_Fr_gatherCalls_75 : decode prog_3_method_2_code 75 = .ok (.iaload, 1) := by decide +kernel
theorem dd_Fr_gatherCalls_76 : decode prog_3_method_2_code 76 = .ok (.iadd, 1) := by decide +kernel
theorem dd_Fr_gatherCalls_77 : decode prog_3_method_2_code 77 = .ok (.iconst 1, 1) := by decide +kernel
theorem dd_Fr_gatherCalls_78 : decode prog_3_method_2_code 78 = .ok (.bastore, 1) := by decide +kernel
theorem dd_Fr_gatherCalls_79 : decode prog_3_method_2_code 79 = .ok (.iinc 1 1, 3) := by decide +kernel
theorem dd_Fr_gatherCalls_82 : decode prog_3_method_2_code 82 = .ok (.goto (-56), 3) := by decide +kernel
theorem dd_Fr_gatherCalls_85 : decode prog_3_method_2_code 85 = .ok (.return_, 1) := by decide +kernel
theorem dd_Fr_hasRecursion_0 : decode prog_3_method_3_code 0 = .ok (.aload_n 0, 1) := by decide +kernel
theorem dd_Fr_hasRecursion_1 : decode prog_3_method_3_code 1 = .ok (.invokevirtual 46, 3) := by decide +kernel
theorem dd_Fr_hasRecursion_4 : decode prog_3_method_3_code 4 = .ok (.iconst 0, 1) := by decide +kernel
theorem dd_Fr_hasRecursion_5 : decode prog_3_method_3_code 5 = .ok (.istore_n 1, 1) := by decide +kernel
theorem dd_Fr_hasRecursion_6 : decode prog_3_method_3_code 6 = .ok (.iload_n 1, 1) := by decide +kernel
theorem dd_Fr_hasRecursion_7 : decode prog_3_method_3_code 7 = .ok (.bipush 6, 2) := by decide +kernel
theorem dd_Fr_hasRecursion_9 : decode prog_3_method_3_code 9 = .ok (.if_icmp .ge (25), 3) := by decide +kernel
theorem dd_Fr_hasRecursion_12 : decode prog_3_method_3_code 12 = .ok (.aload_n 0, 1) := by decide +kernel
theorem dd_Fr_hasRecursion_13 : decode prog_3_method_3_code 13 = .ok (.getfield 15, 3) := by decide +kernel
theorem dd_Fr_hasRecursion_16 : decode prog_3_method_3_code 16 = .ok (.bipush 6, 2) := by decide +kernel
theorem dd_Fr_hasRecursion_18 : decode prog_3_method_3_code 18 = .ok (.iload_n 1, 1) := by decide +kernel
theorem dd_Fr_hasRecursion_19 : decode prog_3_method_3_code 19 = .ok (.imul, 1) := by decide +kernel
theorem dd_Fr_hasRecursion_20 : decode prog_3_method_3_code 20 = .ok (.iload_n 1, 1) := by decide +kernel
theorem dd_Fr_hasRecursion_21 : decode prog_3_method_3_code 21 = .ok (.iadd, 1) := by decide +kernel
theorem dd_Fr_hasRecursion_22 : decode prog_3_method_3_code 22 = .ok (.baload, 1) := by decide +kernel
theorem dd_Fr_hasRecursion_23 : decode prog_3_method_3_code 23 = .ok (.ifCond .eq (5), 3) := by decide +kernel
theorem dd_Fr_hasRecursion_26 : decode prog_3_method_3_code 26 = .ok (.iconst 1, 1) := by decide +kernel
theorem dd_Fr_hasRecursion_27 : decode prog_3_method_3_code 27 = .ok (.ireturn, 1) := by decide +kernel
theorem dd_Fr_hasRecursion_28 : decode prog_3_method_3_code 28 = .ok (.iinc 1 1, 3) := by decide +kernel
theorem dd_Fr_hasRecursion_31 : decode prog_3_method_3_code 31 = .ok (.goto (-25), 3) := by decide +kernel
theorem dd_Fr_hasRecursion_34 : decode prog_3_method_3_code 34 = .ok (.iconst 0, 1) := by decide +kernel
theorem dd_Fr_hasRecursion_35 : decode prog_3_method_3_code 35 = .ok (.ireturn, 1) := by decide +kernel
theorem dd_Fr_closeCalls_0 : decode prog_3_method_4_code 0 = .ok (.iconst 0, 1) := by decide +kernel
theorem dd_Fr_closeCalls_1 : decode prog_3_method_4_code 1 = .ok (.istore_n 1, 1) := by decide +kernel
theorem dd_Fr_closeCalls_2 : decode prog_3_method_4_code 2 = .ok (.iload_n 1, 1) := by decide +kernel
theorem dd_Fr_closeCalls_3 : decode prog_3_method_4_code 3 = .ok (.aload_n 0, 1) := by decide +kernel
theorem dd_Fr_closeCalls_4 : decode prog_3_method_4_code 4 = .ok (.getfield 9, 3) := by decide +kernel
theorem dd_Fr_closeCalls_7 : decode prog_3_method_4_code 7 = .ok (.arraylength, 1) := by decide +kernel
theorem dd_Fr_closeCalls_8 : decode prog_3_method_4_code 8 = .ok (.if_icmp .ge (21), 3) := by decide +kernel
theorem dd_Fr_closeCalls_11 : decode prog_3_method_4_code 11 = .ok (.aload_n 0, 1) := by decide +kernel
theorem dd_Fr_closeCalls_12 : decode prog_3_method_4_code 12 = .ok (.getfield 15, 3) := by decide +kernel
theorem dd_Fr_closeCalls_15 : decode prog_3_method_4_code 15 = .ok (.iload_n 1, 1) := by decide +kernel
theorem dd_Fr_closeCalls_16 : decode prog_3_method_4_code 16 = .ok (.aload_n 0, 1) := by decide +kernel
theorem dd_Fr_closeCalls_17 : decode prog_3_method_4_code 17 = .ok (.getfield 9, 3) := by decide +kernel
theorem dd_Fr_closeCalls_20 : decode prog_3_method_4_code 20 = .ok (.iload_n 1, 1) := by decide +kernel
theorem dd_Fr_closeCalls_21 : decode prog_3_method_4_code 21 = .ok (.baload, 1) := by decide +kernel
theorem dd_Fr_closeCalls_22 : decode prog_3_method_4_code 22 = .ok (.bastore, 1) := by decide +kernel
theorem dd_Fr_closeCalls_23 : decode prog_3_method_4_code 23 = .ok (.iinc 1 1, 3) := by decide +kernel
theorem dd_Fr_closeCalls_26 : decode prog_3_method_4_code 26 = .ok (.goto (-24), 3) := by decide +kernel
theorem dd_Fr_closeCalls_29 : decode prog_3_method_4_code 29 = .ok (.iconst 0, 1) := by decide +kernel
theorem dd_Fr_closeCalls_30 : decode prog_3_method_4_code 30 = .ok (.istore_n 1, 1) := by decide +kernel
theorem dd_Fr_closeCalls_31 : decode prog_3_method_4_code 31 = .ok (.iload_n 1, 1) := by decide +kernel
theorem dd_Fr_closeCalls_32 : decode prog_3_method_4_code 32 = .ok (.bipush 6, 2) := by decide +kernel
theorem dd_Fr_closeCalls_34 : decode prog_3_method_4_code 34 = .ok (.if_icmp .ge (107), 3) := by decide +kernel
theorem dd_Fr_closeCalls_37 : decode prog_3_method_4_code 37 = .ok (.iconst 0, 1) := by decide +kernel
theorem dd_Fr_closeCalls_38 : decode prog_3_method_4_code 38 = .ok (.istore_n 2, 1) := by decide +kernel
theorem dd_Fr_closeCalls_39 : decode prog_3_method_4_code 39 = .ok (.iload_n 2, 1) := by decide +kernel
theorem dd_Fr_closeCalls_40 : decode prog_3_method_4_code 40 = .ok (.bipush 6, 2) := by decide +kernel
theorem dd_Fr_closeCalls_42 : decode prog_3_method_4_code 42 = .ok (.if_icmp .ge (93), 3) := by decide +kernel
theorem dd_Fr_closeCalls_45 : decode prog_3_method_4_code 45 = .ok (.iconst 0, 1) := by decide +kernel
theorem dd_Fr_closeCalls_46 : decode prog_3_method_4_code 46 = .ok (.istore_n 3, 1) := by decide +kernel
theorem dd_Fr_closeCalls_47 : decode prog_3_method_4_code 47 = .ok (.iload_n 3, 1) := by decide +kernel
theorem dd_Fr_closeCalls_48 : decode prog_3_method_4_code 48 = .ok (.bipush 6, 2) := by decide +kernel
theorem dd_Fr_closeCalls_50 : decode prog_3_method_4_code 50 = .ok (.if_icmp .ge (79), 3) := by decide +kernel
theorem dd_Fr_closeCalls_53 : decode prog_3_method_4_code 53 = .ok (.aload_n 0, 1) := by decide +kernel
theorem dd_Fr_closeCalls_54 : decode prog_3_method_4_code 54 = .ok (.getfield 15, 3) := by decide +kernel
theorem dd_Fr_closeCalls_57 : decode prog_3_method_4_code 57 = .ok (.bipush 6, 2) := by decide +kernel
theorem dd_Fr_closeCalls_59 : decode prog_3_method_4_code 59 = .ok (.iload_n 2, 1) := by decide +kernel
theorem dd_Fr_closeCalls_60 : decode prog_3_method_4_code 60 = .ok (.imul, 1) := by decide +kernel
theorem dd_Fr_closeCalls_61 : decode prog_3_method_4_code 61 = .ok (.iload_n 1, 1) := by decide +kernel
theorem dd_Fr_closeCalls_62 : decode prog_3_method_4_code 62 = .ok (.iadd, 1) := by decide +kernel
theorem dd_Fr_closeCalls_63 : decode prog_3_method_4_code 63 = .ok (.baload, 1) := by decide +kernel
theorem dd_Fr_closeCalls_64 : decode prog_3_method_4_code 64 = .ok (.ifCond .eq (21), 3) := by decide +kernel
theorem dd_Fr_closeCalls_67 : decode prog_3_method_4_code 67 = .ok (.aload_n 0, 1) := by decide +kernel
theorem dd_Fr_closeCalls_68 : decode prog_3_method_4_code 68 = .ok (.getfield 15, 3) := by decide +kernel
theorem dd_Fr_closeCalls_71 : decode prog_3_method_4_code 71 = .ok (.bipush 6, 2) := by decide +kernel
theorem dd_Fr_closeCalls_73 : decode prog_3_method_4_code 73 = .ok (.iload_n 1, 1) := by decide +kernel
theorem dd_Fr_closeCalls_74 : decode prog_3_method_4_code 74 = .ok (.imul, 1) := by decide +kernel
theorem dd_Fr_closeCalls_75 : decode prog_3_method_4_code 75 = .ok (.iload_n 3, 1) := by decide +kernel
theorem dd_Fr_closeCalls_76 : decode prog_3_method_4_code 76 = .ok (.iadd, 1) := by decide +kernel
theorem dd_Fr_closeCalls_77 : decode prog_3_method_4_code 77 = .ok (.baload, 1) := by decide +kernel
theorem dd_Fr_closeCalls_78 : decode prog_3_method_4_code 78 = .ok (.ifCond .eq (7), 3) := by decide +kernel
theorem dd_Fr_closeCalls_81 : decode prog_3_method_4_code 81 = .ok (.iconst 1, 1) := by decide +kernel
theorem dd_Fr_closeCalls_82 : decode prog_3_method_4_code 82 = .ok (.goto (4), 3) := by decide +kernel
theorem dd_Fr_closeCalls_85 : decode prog_3_method_4_code 85 = .ok (.iconst 0, 1) := by decide +kernel
theorem dd_Fr_closeCalls_86 : decode prog_3_method_4_code 86 = .ok (.istore 4, 2) := by decide +kernel
theorem dd_Fr_closeCalls_88 : decode prog_3_method_4_code 88 = .ok (.aload_n 0, 1) := by decide +kernel
theorem dd_Fr_closeCalls_89 : decode prog_3_method_4_code 89 = .ok (.getfield 15, 3) := by decide +kernel
theorem dd_Fr_closeCalls_92 : decode prog_3_method_4_code 92 = .ok (.bipush 6, 2) := by decide +kernel
theorem dd_Fr_closeCalls_94 : decode prog_3_method_4_code 94 = .ok (.iload_n 2, 1) := by decide +kernel
theorem dd_Fr_closeCalls_95 : decode prog_3_method_4_code 95 = .ok (.imul, 1) := by decide +kernel
theorem dd_Fr_closeCalls_96 : decode prog_3_method_4_code 96 = .ok (.iload_n 3, 1) := by decide +kernel
theorem dd_Fr_closeCalls_97 : decode prog_3_method_4_code 97 = .ok (.iadd, 1) := by decide +kernel
theorem dd_Fr_closeCalls_98 : decode prog_3_method_4_code 98 = .ok (.aload_n 0, 1) := by decide +kernel
theorem dd_Fr_closeCalls_99 : decode prog_3_method_4_code 99 = .ok (.getfield 15, 3) := by decide +kernel
theorem dd_Fr_closeCalls_102 : decode prog_3_method_4_code 102 = .ok (.bipush 6, 2) := by decide +kernel
theorem dd_Fr_closeCalls_104 : decode prog_3_method_4_code 104 = .ok (.iload_n 2, 1) := by decide +kernel
theorem dd_Fr_closeCalls_105 : decode prog_3_method_4_code 105 = .ok (.imul, 1) := by decide +kernel
theorem dd_Fr_closeCalls_106 : decode prog_3_method_4_code 106 = .ok (.iload_n 3, 1) := by decide +kernel
theorem dd_Fr_closeCalls_107 : decode prog_3_method_4_code 107 = .ok (.iadd, 1) := by decide +kernel
theorem dd_Fr_closeCalls_108 : decode prog_3_method_4_code 108 = .ok (.baload, 1) := by decide +kernel
theorem dd_Fr_closeCalls_109 : decode prog_3_method_4_code 109 = .ok (.ifCond .ne (8), 3) := by decide +kernel
theorem dd_Fr_closeCalls_112 : decode prog_3_method_4_code 112 = .ok (.iload 4, 2) := by decide +kernel
theorem dd_Fr_closeCalls_114 : decode prog_3_method_4_code 114 = .ok (.ifCond .eq (7), 3) := by decide +kernel
theorem dd_Fr_closeCalls_117 : decode prog_3_method_4_code 117 = .ok (.iconst 1, 1) := by decide +kernel
theorem dd_Fr_closeCalls_118 : decode prog_3_method_4_code 118 = .ok (.goto (4), 3) := by decide +kernel
theorem dd_Fr_closeCalls_121 : decode prog_3_method_4_code 121 = .ok (.iconst 0, 1) := by decide +kernel
theorem dd_Fr_closeCalls_122 : decode prog_3_method_4_code 122 = .ok (.bastore, 1) := by decide +kernel
theorem dd_Fr_closeCalls_123 : decode prog_3_method_4_code 123 = .ok (.iinc 3 1, 3) := by decide +kernel
theorem dd_Fr_closeCalls_126 : decode prog_3_method_4_code 126 = .ok (.goto (-79), 3) := by decide +kernel
theorem dd_Fr_closeCalls_129 : decode prog_3_method_4_code 129 = .ok (.iinc 2 1, 3) := by decide +kernel
theorem dd_Fr_closeCalls_132 : decode prog_3_method_4_code 132 = .ok (.goto (-93), 3) := by decide +kernel
theorem dd_Fr_closeCalls_135 : decode prog_3_method_4_code 135 = .ok (.iinc 1 1, 3) := by decide +kernel
theorem dd_Fr_closeCalls_138 : decode prog_3_method_4_code 138 = .ok (.goto (-107), 3) := by decide +kernel
theorem dd_Fr_closeCalls_141 : decode prog_3_method_4_code 141 = .ok (.return_, 1) := by decide +kernel
theorem dd_Fr_findBases_0 : decode prog_3_method_5_code 0 = .ok (.aload_n 0, 1) := by decide +kernel
theorem dd_Fr_findBases_1 : decode prog_3_method_5_code 1 = .ok (.getfield 18, 3) := by decide +kernel
theorem dd_Fr_findBases_4 : decode prog_3_method_5_code 4 = .ok (.iconst 0, 1) := by decide +kernel
theorem dd_Fr_findBases_5 : decode prog_3_method_5_code 5 = .ok (.invokestatic 49, 3) := by decide +kernel
theorem dd_Fr_findBases_8 : decode prog_3_method_5_code 8 = .ok (.iconst 0, 1) := by decide +kernel
theorem dd_Fr_findBases_9 : decode prog_3_method_5_code 9 = .ok (.istore_n 1, 1) := by decide +kernel
theorem dd_Fr_findBases_10 : decode prog_3_method_5_code 10 = .ok (.iload_n 1, 1) := by decide +kernel
theorem dd_Fr_findBases_11 : decode prog_3_method_5_code 11 = .ok (.bipush 6, 2) := by decide +kernel
theorem dd_Fr_findBases_13 : decode prog_3_method_5_code 13 = .ok (.if_icmp .ge (33), 3) := by decide +kernel
theorem dd_Fr_findBases_16 : decode prog_3_method_5_code 16 = .ok (.iconst 0, 1) := by decide +kernel
theorem dd_Fr_findBases_17 : decode prog_3_method_5_code 17 = .ok (.istore_n 2, 1) := by decide +kernel
theorem dd_Fr_findBases_18 : decode prog_3_method_5_code 18 = .ok (.iload_n 2, 1) := by decide +kernel
theorem dd_Fr_findBases_19 : decode prog_3_method_5_code 19 = .ok (.aload_n 0, 1) := by decide +kernel
theorem dd_Fr_findBases_20 : decode prog_3_method_5_code 20 = .ok (.getfield 27, 3) := by decide +kernel
theorem dd_Fr_findBases_23 : decode prog_3_method_5_code 23 = .ok (.getfield 55, 3) := by decide +kernel
theorem dd_Fr_findBases_26 : decode prog_3_method_5_code 26 = .ok (.if_icmp .ge (14), 3) := by decide +kernel
theorem dd_Fr_findBases_29 : decode prog_3_method_5_code 29 = .ok (.aload_n 0, 1) := by decide +kernel
theorem dd_Fr_findBases_30 : decode prog_3_method_5_code 30 = .ok (.iload_n 2, 1) := by decide +kernel
theorem dd_Fr_findBases_31 : decode prog_3_method_5_code 31 = .ok (.invokevirtual 58, 3) := by decide +kernel
theorem dd_Fr_findBases_34 : decode prog_3_method_5_code 34 = .ok (.iinc 2 1, 3) := by decide +kernel
theorem dd_Fr_findBases_37 : decode prog_3_method_5_code 37 = .ok (.goto (-19), 3) := by decide +kernel
theorem dd_Fr_findBases_40 : decode prog_3_method_5_code 40 = .ok (.iinc 1 1, 3) := by decide +kernel
theorem dd_Fr_findBases_43 : decode prog_3_method_5_code 43 = .ok (.goto (-33), 3) := by decide +kernel
theorem dd_Fr_findBases_46 : decode prog_3_method_5_code 46 = .ok (.return_, 1) := by decide +kernel
theorem dd_Fr_pushCallees_0 : decode prog_3_method_6_code 0 = .ok (.iconst 1, 1) := by decide +kernel
theorem dd_Fr_pushCallees_1 : decode prog_3_method_6_code 1 = .ok (.istore_n 2, 1) := by decide +kernel
theorem dd_Fr_pushCallees_2 : decode prog_3_method_6_code 2 = .ok (.iload_n 2, 1) := by decide +kernel
theorem dd_Fr_pushCallees_3 : decode prog_3_method_6_code 3 = .ok (.bipush 6, 2) := by decide +kernel
theorem dd_Fr_pushCallees_5 : decode prog_3_method_6_code 5 = .ok (.if_icmp .ge (43), 3) := by decide +kernel
theorem dd_Fr_pushCallees_8 : decode prog_3_method_6_code 8 = .ok (.aload_n 0, 1) := by decide +kernel
theorem dd_Fr_pushCallees_9 : decode prog_3_method_6_code 9 = .ok (.getfield 9, 3) := by decide +kernel
theorem dd_Fr_pushCallees_12 : decode prog_3_method_6_code 12 = .ok (.bipush 6, 2) := by decide +kernel
theorem dd_Fr_pushCallees_14 : decode prog_3_method_6_code 14 = .ok (.iload_n 1, 1) := by decide +kernel
theorem dd_Fr_pushCallees_15 : decode prog_3_method_6_code 15 = .ok (.imul, 1) := by decide +kernel
theorem dd_Fr_pushCallees_16 : decode prog_3_method_6_code 16 = .ok (.iload_n 2, 1) := by decide +kernel
theorem dd_Fr_pushCallees_17 : decode prog_3_method_6_code 17 = .ok (.iadd, 1) := by decide +kernel
theorem dd_Fr_pushCallees_18 : decode prog_3_method_6_code 18 = .ok (.baload, 1) := by decide +kernel
theorem dd_Fr_pushCallees_19 : decode prog_3_method_6_code 19 = .ok (.ifCond .eq (23), 3) := by decide +kernel
theorem dd_Fr_pushCallees_22 : decode prog_3_method_6_code 22 = .ok (.aload_n 0, 1) := by decide +kernel
theorem dd_Fr_pushCallees_23 : decode prog_3_method_6_code 23 = .ok (.getfield 18, 3) := by decide +kernel
theorem dd_Fr_pushCallees_26 : decode prog_3_method_6_code 26 = .ok (.iload_n 2, 1) := by decide +kernel
theorem dd_Fr_pushCallees_27 : decode prog_3_method_6_code 27 = .ok (.aload_n 0, 1) := by decide +kernel
theorem dd_Fr_pushCallees_28 : decode prog_3_method_6_code 28 = .ok (.getfield 18, 3) := by decide +kernel
theorem dd_Fr_pushCallees_31 : decode prog_3_method_6_code 31 = .ok (.iload_n 2, 1) := by decide +kernel
theorem dd_Fr_pushCallees_32 : decode prog_3_method_6_code 32 = .ok (.iaload, 1) := by decide +kernel
theorem dd_Fr_pushCallees_33 : decode prog_3_method_6_code 33 = .ok (.aload_n 0, 1) := by decide +kernel
theorem dd_Fr_pushCallees_34 : decode prog_3_method_6_code 34 = .ok (.iload_n 1, 1) := by decide +kernel
theorem dd_Fr_pushCallees_35 : decode prog_3_method_6_code 35 = .ok (.invokevirtual 62, 3) := by decide +kernel
theorem dd_Fr_pushCallees_38 : decode prog_3_method_6_code 38 = .ok (.invokestatic 66, 3) := by decide +kernel
theorem dd_Fr_pushCallees_41 : decode prog_3_method_6_code 41 = .ok (.iastore, 1) := by decide +kernel
theorem dd_Fr_pushCallees_42 : decode prog_3_method_6_code 42 = .ok (.iinc 2 1, 3) := by decide +kernel
theorem dd_Fr_pushCallees_45 : decode prog_3_method_6_code 45 = .ok (.goto (-43), 3) := by decide +kernel
theorem dd_Fr_pushCallees_48 : decode prog_3_method_6_code 48 = .ok (.return_, 1) := by decide +kernel
theorem dd_Fr_endOf_0 : decode prog_3_method_7_code 0 = .ok (.aload_n 0, 1) := by decide +kernel
theorem dd_Fr_endOf_1 : decode prog_3_method_7_code 1 = .ok (.getfield 18, 3) := by decide +kernel
theorem dd_Fr_endOf_4 : decode prog_3_method_7_code 4 = .ok (.iload_n 1, 1) := by decide +kernel
theorem dd_Fr_endOf_5 : decode prog_3_method_7_code 5 = .ok (.iaload, 1) := by decide +kernel
theorem dd_Fr_endOf_6 : decode prog_3_method_7_code 6 = .ok (.aload_n 0, 1) := by decide +kernel
theorem dd_Fr_endOf_7 : decode prog_3_method_7_code 7 = .ok (.getfield 27, 3) := by decide +kernel
theorem dd_Fr_endOf_10 : decode prog_3_method_7_code 10 = .ok (.iload_n 1, 1) := by decide +kernel
theorem dd_Fr_endOf_11 : decode prog_3_method_7_code 11 = .ok (.invokevirtual 72, 3) := by decide +kernel
theorem dd_Fr_endOf_14 : decode prog_3_method_7_code 14 = .ok (.iadd, 1) := by decide +kernel
theorem dd_Fr_endOf_15 : decode prog_3_method_7_code 15 = .ok (.ireturn, 1) := by decide +kernel
theorem dd_Fr_fit_0 : decode prog_3_method_8_code 0 = .ok (.iconst 0, 1) := by decide +kernel
theorem dd_Fr_fit_1 : decode prog_3_method_8_code 1 = .ok (.istore_n 1, 1) := by decide +kernel
theorem dd_Fr_fit_2 : decode prog_3_method_8_code 2 = .ok (.iload_n 1, 1) := by decide +kernel
theorem dd_Fr_fit_3 : decode prog_3_method_8_code 3 = .ok (.aload_n 0, 1) := by decide +kernel
theorem dd_Fr_fit_4 : decode prog_3_method_8_code 4 = .ok (.getfield 27, 3) := by decide +kernel
theorem dd_Fr_fit_7 : decode prog_3_method_8_code 7 = .ok (.getfield 55, 3) := by decide +kernel
theorem dd_Fr_fit_10 : decode prog_3_method_8_code 10 = .ok (.if_icmp .ge (21), 3) := by decide +kernel
theorem dd_Fr_fit_13 : decode prog_3_method_8_code 13 = .ok (.aload_n 0, 1) := by decide +kernel
theorem dd_Fr_fit_14 : decode prog_3_method_8_code 14 = .ok (.iload_n 1, 1) := by decide +kernel
theorem dd_Fr_fit_15 : decode prog_3_method_8_code 15 = .ok (.invokevirtual 62, 3) := by decide +kernel
theorem dd_Fr_fit_18 : decode prog_3_method_8_code 18 = .ok (.bipush 120, 2) := by decide +kernel
theorem dd_Fr_fit_20 : decode prog_3_method_8_code 20 = .ok (.if_icmp .le (5), 3) := by decide +kernel
theorem dd_Fr_fit_23 : decode prog_3_method_8_code 23 = .ok (.iconst 0, 1) := by decide +kernel
theorem dd_Fr_fit_24 : decode prog_3_method_8_code 24 = .ok (.ireturn, 1) := by decide +kernel
theorem dd_Fr_fit_25 : decode prog_3_method_8_code 25 = .ok (.iinc 1 1, 3) := by decide +kernel
theorem dd_Fr_fit_28 : decode prog_3_method_8_code 28 = .ok (.goto (-26), 3) := by decide +kernel
theorem dd_Fr_fit_31 : decode prog_3_method_8_code 31 = .ok (.iconst 1, 1) := by decide +kernel
theorem dd_Fr_fit_32 : decode prog_3_method_8_code 32 = .ok (.ireturn, 1) := by decide +kernel
theorem dd_Fr_placeVariables_0 : decode prog_3_method_9_code 0 = .ok (.iconst 0, 1) := by decide +kernel
theorem dd_Fr_placeVariables_1 : decode prog_3_method_9_code 1 = .ok (.istore_n 1, 1) := by decide +kernel
theorem dd_Fr_placeVariables_2 : decode prog_3_method_9_code 2 = .ok (.iload_n 1, 1) := by decide +kernel
theorem dd_Fr_placeVariables_3 : decode prog_3_method_9_code 3 = .ok (.aload_n 0, 1) := by decide +kernel
theorem dd_Fr_placeVariables_4 : decode prog_3_method_9_code 4 = .ok (.getfield 27, 3) := by decide +kernel
theorem dd_Fr_placeVariables_7 : decode prog_3_method_9_code 7 = .ok (.getfield 55, 3) := by decide +kernel
theorem dd_Fr_placeVariables_10 : decode prog_3_method_9_code 10 = .ok (.if_icmp .ge (60), 3) := by decide +kernel
theorem dd_Fr_placeVariables_13 : decode prog_3_method_9_code 13 = .ok (.aload_n 0, 1) := by decide +kernel
theorem dd_Fr_placeVariables_14 : decode prog_3_method_9_code 14 = .ok (.getfield 18, 3) := by decide +kernel
theorem dd_Fr_placeVariables_17 : decode prog_3_method_9_code 17 = .ok (.iload_n 1, 1) := by decide +kernel
theorem dd_Fr_placeVariables_18 : decode prog_3_method_9_code 18 = .ok (.iaload, 1) := by decide +kernel
theorem dd_Fr_placeVariables_19 : decode prog_3_method_9_code 19 = .ok (.istore_n 2, 1) := by decide +kernel
theorem dd_Fr_placeVariables_20 : decode prog_3_method_9_code 20 = .ok (.iconst 0, 1) := by decide +kernel
theorem dd_Fr_placeVariables_21 : decode prog_3_method_9_code 21 = .ok (.istore_n 3, 1) := by decide +kernel
theorem dd_Fr_placeVariables_22 : decode prog_3_method_9_code 22 = .ok (.iload_n 3, 1) := by decide +kernel
theorem dd_Fr_placeVariables_23 : decode prog_3_method_9_code 23 = .ok (.aload_n 0, 1) := by decide +kernel
theorem dd_Fr_placeVariables_24 : decode prog_3_method_9_code 24 = .ok (.getfield 27, 3) := by decide +kernel
theorem dd_Fr_placeVariables_27 : decode prog_3_method_9_code 27 = .ok (.getfield 75, 3) := by decide +kernel
theorem dd_Fr_placeVariables_30 : decode prog_3_method_9_code 30 = .ok (.iload_n 1, 1) := by decide +kernel
theorem dd_Fr_placeVariables_31 : decode prog_3_method_9_code 31 = .ok (.iaload, 1) := by decide +kernel
theorem dd_Fr_placeVariables_32 : decode prog_3_method_9_code 32 = .ok (.if_icmp .ge (32), 3) := by decide +kernel
theorem dd_Fr_placeVariables_35 : decode prog_3_method_9_code 35 = .ok (.aload_n 0, 1) := by decide +kernel
theorem dd_Fr_placeVariables_36 : decode prog_3_method_9_code 36 = .ok (.getfield 24, 3) := by decide +kernel
theorem dd_Fr_placeVariables_39 : decode prog_3_method_9_code 39 = .ok (.iload_n 1, 1) := by decide +kernel
theorem dd_Fr_placeVariables_40 : decode prog_3_method_9_code 40 = .ok (.aaload, 1) := by decide +kernel
theorem dd_Fr_placeVariables_41 : decode prog_3_method_9_code 41 = .ok (.iload_n 3, 1) := by decide +kernel
theorem dd_Fr_placeVariables_42 : decode prog_3_method_9_code 42 = .ok (.iload_n 2, 1) := by decide +kernel
theorem dd_Fr_placeVariables_43 : decode prog_3_method_9_code 43 = .ok (.iastore, 1) := by decide +kernel
theorem dd_Fr_placeVariables_44 : decode prog_3_method_9_code 44 = .ok (.iload_n 2, 1) := by decide +kernel
theorem dd_Fr_placeVariables_45 : decode prog_3_method_9_code 45 = .ok (.aload_n 0, 1) := by decide +kernel
theorem dd_Fr_placeVariables_46 : decode prog_3_method_9_code 46 = .ok (.getfield 27, 3) := by decide +kernel
theorem dd_Fr_placeVariables_49 : decode prog_3_method_9_code 49 = .ok (.getfield 78, 3) := by decide +kernel
theorem dd_Fr_placeVariables_52 : decode prog_3_method_9_code 52 = .ok (.iload_n 1, 1) := by decide +kernel
theorem dd_Fr_placeVariables_53 : decode prog_3_method_9_code 53 = .ok (.aaload, 1) := by decide +kernel
theorem dd_Fr_placeVariables_54 : decode prog_3_method_9_code 54 = .ok (.iload_n 3, 1) := by decide +kernel
theorem dd_Fr_placeVariables_55 : decode prog_3_method_9_code 55 = .ok (.iaload, 1) := by decide +kernel
theorem dd_Fr_placeVariables_56 : decode prog_3_method_9_code 56 = .ok (.iadd, 1) := by decide +kernel
theorem dd_Fr_placeVariables_57 : decode prog_3_method_9_code 57 = .ok (.istore_n 2, 1) := by decide +kernel
theorem dd_Fr_placeVariables_58 : decode prog_3_method_9_code 58 = .ok (.iinc 3 1, 3) := by decide +kernel
theorem dd_Fr_placeVariables_61 : decode prog_3_method_9_code 61 = .ok (.goto (-39), 3) := by decide +kernel
theorem dd_Fr_placeVariables_64 : decode prog_3_method_9_code 64 = .ok (.iinc 1 1, 3) := by decide +kernel
theorem dd_Fr_placeVariables_67 : decode prog_3_method_9_code 67 = .ok (.goto (-65), 3) := by decide +kernel
theorem dd_Fr_placeVariables_70 : decode prog_3_method_9_code 70 = .ok (.return_, 1) := by decide +kernel
