theorem dd_Mo_base_0 : decode prog_7_method_40_code 0 = .ok (.aload_n 0, 1) := by decide +kernel
theorem dd_Mo_base_1 : decode prog_7_method_40_code 1 = .ok (.getfield 65, 3) := by decide +kernel
theorem dd_Mo_base_4 : decode prog_7_method_40_code 4 = .ok (.ifCond .eq (24), 3) := by decide +kernel
theorem dd_Mo_base_7 : decode prog_7_method_40_code 7 = .ok (.iload_n 1, 1) := by decide +kernel
theorem dd_Mo_base_8 : decode prog_7_method_40_code 8 = .ok (.ifCond .lt (20), 3) := by decide +kernel
theorem dd_Mo_base_11 : decode prog_7_method_40_code 11 = .ok (.iload_n 1, 1) := by decide +kernel
theorem dd_Mo_base_12 : decode prog_7_method_40_code 12 = .ok (.aload_n 0, 1) := by decide +kernel
theorem dd_Mo_base_13 : decode prog_7_method_40_code 13 = .ok (.getfield 72, 3) := by decide +kernel
theorem dd_Mo_base_16 : decode prog_7_method_40_code 16 = .ok (.if_icmp .ge (12), 3) := by decide +kernel
theorem dd_Mo_base_19 : decode prog_7_method_40_code 19 = .ok (.aload_n 0, 1) := by decide +kernel
theorem dd_Mo_base_20 : decode prog_7_method_40_code 20 = .ok (.getfield 31, 3) := by decide +kernel
theorem dd_Mo_base_23 : decode prog_7_method_40_code 23 = .ok (.iload_n 1, 1) := by decide +kernel
theorem dd_Mo_base_24 : decode prog_7_method_40_code 24 = .ok (.iaload, 1) := by decide +kernel
theorem dd_Mo_base_25 : decode prog_7_method_40_code 25 = .ok (.goto (4), 3) := by decide +kernel
theorem dd_Mo_base_28 : decode prog_7_method_40_code 28 = .ok (.iconst (-1), 1) := by decide +kernel
theorem dd_Mo_base_29 : decode prog_7_method_40_code 29 = .ok (.ireturn, 1) := by decide +kernel
theorem dd_Mo_address_0 : decode prog_7_method_41_code 0 = .ok (.aload_n 0, 1) := by decide +kernel
theorem dd_Mo_address_1 : decode prog_7_method_41_code 1 = .ok (.getfield 65, 3) := by decide +kernel
theorem dd_Mo_address_4 : decode prog_7_method_41_code 4 = .ok (.ifCond .eq (43), 3) := by decide +kernel
theorem dd_Mo_address_7 : decode prog_7_method_41_code 7 = .ok (.iload_n 1, 1) := by decide +kernel
theorem dd_Mo_address_8 : decode prog_7_method_41_code 8 = .ok (.ifCond .lt (39), 3) := by decide +kernel
theorem dd_Mo_address_11 : decode prog_7_method_41_code 11 = .ok (.iload_n 1, 1) := by decide +kernel
theorem dd_Mo_address_12 : decode prog_7_method_41_code 12 = .ok (.aload_n 0, 1) := by decide +kernel
theorem dd_Mo_address_13 : decode prog_7_method_41_code 13 = .ok (.getfield 72, 3) := by decide +kernel
theorem dd_Mo_address_16 : decode prog_7_method_41_code 16 = .ok (.if_icmp .ge (31), 3) := by decide +kernel
theorem dd_Mo_address_19 : decode prog_7_method_41_code 19 = .ok (.iload_n 2, 1) := by decide +kernel
theorem dd_Mo_address_20 : decode prog_7_method_41_code 20 = .ok (.ifCond .lt (27), 3) := by decide +kernel
theorem dd_Mo_address_23 : decode prog_7_method_41_code 23 = .ok (.iload_n 2, 1) := by decide +kernel
theorem dd_Mo_address_24 : decode prog_7_method_41_code 24 = .ok (.aload_n 0, 1) := by decide +kernel
theorem dd_Mo_address_25 : decode prog_7_method_41_code 25 = .ok (.getfield 13, 3) := by decide +kernel
theorem dd_Mo_address_28 : decode prog_7_method_41_code 28 = .ok (.iload_n 1, 1) := by decide +kernel
theorem dd_Mo_address_29 : decode prog_7_method_41_code 29 = .ok (.iaload, 1) := by decide +kernel
theorem dd_Mo_address_30 : decode prog_7_method_41_code 30 = .ok (.if_icmp .ge (17), 3) := by decide +kernel
theorem dd_Mo_address_33 : decode prog_7_method_41_code 33 = .ok (.aload_n 0, 1) := by decide +kernel
theorem dd_Mo_address_34 : decode prog_7_method_41_code 34 = .ok (.getfield 41, 3) := by decide +kernel
theorem dd_Mo_address_37 : decode prog_7_method_41_code 37 = .ok (.bipush 24, 2) := by decide +kernel
theorem dd_Mo_address_39 : decode prog_7_method_41_code 39 = .ok (.iload_n 1, 1) := by decide +kernel
theorem dd_Mo_address_40 : decode prog_7_method_41_code 40 = .ok (.imul, 1) := by decide +kernel
theorem dd_Mo_address_41 : decode prog_7_method_41_code 41 = .ok (.iload_n 2, 1) := by decide +kernel
theorem dd_Mo_address_42 : decode prog_7_method_41_code 42 = .ok (.iadd, 1) := by decide +kernel
theorem dd_Mo_address_43 : decode prog_7_method_41_code 43 = .ok (.iaload, 1) := by decide +kernel
theorem dd_Mo_address_44 : decode prog_7_method_41_code 44 = .ok (.goto (4), 3) := by decide +kernel
theorem dd_Mo_address_47 : decode prog_7_method_41_code 47 = .ok (.iconst (-1), 1) := by decide +kernel
theorem dd_Mo_address_48 : decode prog_7_method_41_code 48 = .ok (.ireturn, 1) := by decide +kernel
theorem dd_Mo_start_0 : decode prog_7_method_42_code 0 = .ok (.aload_n 0, 1) := by decide +kernel
theorem dd_Mo_start_1 : decode prog_7_method_42_code 1 = .ok (.getfield 65, 3) := by decide +kernel
theorem dd_Mo_start_4 : decode prog_7_method_42_code 4 = .ok (.ifCond .ne (5), 3) := by decide +kernel
theorem dd_Mo_start_7 : decode prog_7_method_42_code 7 = .ok (.iconst 0, 1) := by decide +kernel
theorem dd_Mo_start_8 : decode prog_7_method_42_code 8 = .ok (.ireturn, 1) := by decide +kernel
theorem dd_Mo_start_9 : decode prog_7_method_42_code 9 = .ok (.aload_n 0, 1) := by decide +kernel
theorem dd_Mo_start_10 : decode prog_7_method_42_code 10 = .ok (.iconst 1, 1) := by decide +kernel
theorem dd_Mo_start_11 : decode prog_7_method_42_code 11 = .ok (.putfield 69, 3) := by decide +kernel
theorem dd_Mo_start_14 : decode prog_7_method_42_code 14 = .ok (.aload_n 0, 1) := by decide +kernel
theorem dd_Mo_start_15 : decode prog_7_method_42_code 15 = .ok (.iconst 0, 1) := by decide +kernel
theorem dd_Mo_start_16 : decode prog_7_method_42_code 16 = .ok (.putfield 194, 3) := by decide +kernel
theorem dd_Mo_start_19 : decode prog_7_method_42_code 19 = .ok (.aload_n 0, 1) := by decide +kernel
theorem dd_Mo_start_20 : decode prog_7_method_42_code 20 = .ok (.iconst 0, 1) := by decide +kernel
theorem dd_Mo_start_21 : decode prog_7_method_42_code 21 = .ok (.putfield 197, 3) := by decide +kernel
theorem dd_Mo_start_24 : decode prog_7_method_42_code 24 = .ok (.aload_n 0, 1) := by decide +kernel
theorem dd_Mo_start_25 : decode prog_7_method_42_code 25 = .ok (.iconst 0, 1) := by decide +kernel
theorem dd_Mo_start_26 : decode prog_7_method_42_code 26 = .ok (.putfield 200, 3) := by decide +kernel
theorem dd_Mo_start_29 : decode prog_7_method_42_code 29 = .ok (.aload_n 0, 1) := by decide +kernel
theorem dd_Mo_start_30 : decode prog_7_method_42_code 30 = .ok (.iconst 1, 1) := by decide +kernel
theorem dd_Mo_start_31 : decode prog_7_method_42_code 31 = .ok (.putfield 203, 3) := by decide +kernel
theorem dd_Mo_start_34 : decode prog_7_method_42_code 34 = .ok (.aload_n 0, 1) := by decide +kernel
theorem dd_Mo_start_35 : decode prog_7_method_42_code 35 = .ok (.getfield 56, 3) := by decide +kernel
theorem dd_Mo_start_38 : decode prog_7_method_42_code 38 = .ok (.iconst 0, 1) := by decide +kernel
theorem dd_Mo_start_39 : decode prog_7_method_42_code 39 = .ok (.iconst 0, 1) := by decide +kernel
theorem dd_Mo_start_40 : decode prog_7_method_42_code 40 = .ok (.iastore, 1) := by decide +kernel
theorem dd_Mo_start_41 : decode prog_7_method_42_code 41 = .ok (.iconst 0, 1) := by decide +kernel
theorem dd_Mo_start_42 : decode prog_7_method_42_code 42 = .ok (.istore_n 1, 1) := by decide +kernel
theorem dd_Mo_start_43 : decode prog_7_method_42_code 43 = .ok (.iload_n 1, 1) := by decide +kernel
theorem dd_Mo_start_44 : decode prog_7_method_42_code 44 = .ok (.sipush 128, 3) := by decide +kernel
theorem dd_Mo_start_47 : decode prog_7_method_42_code 47 = .ok (.if_icmp .ge (16), 3) := by decide +kernel
theorem dd_Mo_start_50 : decode prog_7_method_42_code 50 = .ok (.aload_n 0, 1) := by decide +kernel
theorem dd_Mo_start_51 : decode prog_7_method_42_code 51 = .ok (.getfield 59, 3) := by decide +kernel
theorem dd_Mo_start_54 : decode prog_7_method_42_code 54 = .ok (.iload_n 1, 1) := by decide +kernel
theorem dd_Mo_start_55 : decode prog_7_method_42_code 55 = .ok (.iconst 0, 1) := by decide +kernel
theorem dd_Mo_start_56 : decode prog_7_method_42_code 56 = .ok (.iastore, 1) := by decide +kernel
theorem dd_Mo_start_57 : decode prog_7_method_42_code 57 = .ok (.iinc 1 1, 3) := by decide +kernel
theorem dd_Mo_start_60 : decode prog_7_method_42_code 60 = .ok (.goto (-17), 3) := by decide +kernel
theorem dd_Mo_start_63 : decode prog_7_method_42_code 63 = .ok (.iconst 1, 1) := by decide +kernel
theorem dd_Mo_start_64 : decode prog_7_method_42_code 64 = .ok (.ireturn, 1) := by decide +kernel
theorem dd_Mo_read_0 : decode prog_7_method_43_code 0 = .ok (.aload_n 0, 1) := by decide +kernel
theorem dd_Mo_read_1 : decode prog_7_method_43_code 1 = .ok (.iload_n 1, 1) := by decide +kernel
theorem dd_Mo_read_2 : decode prog_7_method_43_code 2 = .ok (.iload_n 2, 1) := by decide +kernel
theorem dd_Mo_read_3 : decode prog_7_method_43_code 3 = .ok (.invokevirtual 105, 3) := by decide +kernel
theorem dd_Mo_read_6 : decode prog_7_method_43_code 6 = .ok (.istore_n 3, 1) := by decide +kernel
theorem dd_Mo_read_7 : decode prog_7_method_43_code 7 = .ok (.aload_n 0, 1) := by decide +kernel
theorem dd_Mo_read_8 : decode prog_7_method_43_code 8 = .ok (.getfield 16, 3) := by decide +kernel
theorem dd_Mo_read_11 : decode prog_7_method_43_code 11 = .ok (.bipush 6, 2) := by decide +kernel
theorem dd_Mo_read_13 : decode prog_7_method_43_code 13 = .ok (.iload_n 1, 1) := by decide +kernel
theorem dd_Mo_read_14 : decode prog_7_method_43_code 14 = .ok (.imul, 1) := by decide +kernel
theorem dd_Mo_read_15 : decode prog_7_method_43_code 15 = .ok (.iload_n 2, 1) := by decide +kernel
theorem dd_Mo_read_16 : decode prog_7_method_43_code 16 = .ok (.iadd, 1) := by decide +kernel
theorem dd_Mo_read_17 : decode prog_7_method_43_code 17 = .ok (.iaload, 1) := by decide +kernel
theorem dd_Mo_read_18 : decode prog_7_method_43_code 18 = .ok (.iconst 2, 1) := by decide +kernel
theorem dd_Mo_read_19 : decode prog_7_method_43_code 19 = .ok (.if_icmp .ne (25), 3) := by decide +kernel
theorem dd_Mo_read_22 : decode prog_7_method_43_code 22 = .ok (.aload_n 0, 1) := by decide +kernel
theorem dd_Mo_read_23 : decode prog_7_method_43_code 23 = .ok (.getfield 59, 3) := by decide +kernel
theorem dd_Mo_read_26 : decode prog_7_method_43_code 26 = .ok (.iload_n 3, 1) := by decide +kernel
theorem dd_Mo_read_27 : decode prog_7_method_43_code 27 = .ok (.iaload, 1) := by decide +kernel
theorem dd_Mo_read_28 : decode prog_7_method_43_code 28 = .ok (.sipush 256, 3) := by decide +kernel
theorem dd_Mo_read_31 : decode prog_7_method_43_code 31 = .ok (.aload_n 0, 1) := by decide +kernel
theorem dd_Mo_read_32 : decode prog_7_method_43_code 32 = .ok (.getfield 59, 3) := by decide +kernel
theorem dd_Mo_read_35 : decode prog_7_method_43_code 35 = .ok (.iload_n 3, 1) := by decide +kernel
theorem dd_Mo_read_36 : decode prog_7_method_43_code 36 = .ok (.iconst 1, 1) := by decide +kernel
theorem dd_Mo_read_37 : decode prog_7_method_43_code 37 = .ok (.iadd, 1) := by decide +kernel
theorem dd_Mo_read_38 : decode prog_7_method_43_code 38 = .ok (.iaload, 1) := by decide +kernel
theorem dd_Mo_read_39 : decode prog_7_method_43_code 39 = .ok (.imul, 1) := by decide +kernel
theorem dd_Mo_read_40 : decode prog_7_method_43_code 40 = .ok (.iadd, 1) := by decide +kernel
theorem dd_Mo_read_41 : decode prog_7_method_43_code 41 = .ok (.goto (9), 3) := by decide +kernel
theorem dd_Mo_read_44 : decode prog_7_method_43_code 44 = .ok (.aload_n 0, 1) := by decide +kernel
theorem dd_Mo_read_45 : decode prog_7_method_43_code 45 = .ok (.getfield 59, 3) := by decide +kernel
theorem dd_Mo_read_48 : decode prog_7_method_43_code 48 = .ok (.iload_n 3, 1) := by decide +kernel
theorem dd_Mo_read_49 : decode prog_7_method_43_code 49 = .ok (.iaload, 1) := by decide +kernel
theorem dd_Mo_read_50 : decode prog_7_method_43_code 50 = .ok (.ireturn, 1) := by decide +kernel
theorem dd_Mo_write_0 : decode prog_7_method_44_code 0 = .ok (.aload_n 0, 1) := by decide +kernel
theorem dd_Mo_write_1 : decode prog_7_method_44_code 1 = .ok (.iload_n 1, 1) := by decide +kernel
theorem dd_Mo_write_2 : decode prog_7_method_44_code 2 = .ok (.iload_n 2, 1) := by decide +kernel
theorem dd_Mo_write_3 : decode prog_7_method_44_code 3 = .ok (.invokevirtual 105, 3) := by decide +kernel
theorem dd_Mo_write_6 : decode prog_7_method_44_code 6 = .ok (.istore 4, 2) := by decide +kernel
theorem dd_Mo_write_8 : decode prog_7_method_44_code 8 = .ok (.aload_n 0, 1) := by decide +kernel
theorem dd_Mo_write_9 : decode prog_7_method_44_code 9 = .ok (.getfield 59, 3) := by decide +kernel
theorem dd_Mo_write_12 : decode prog_7_method_44_code 12 = .ok (.iload 4, 2) := by decide +kernel
theorem dd_Mo_write_14 : decode prog_7_method_44_code 14 = .ok (.iload_n 3, 1) := by decide +kernel
theorem dd_Mo_write_15 : decode prog_7_method_44_code 15 = .ok (.sipush 255, 3) := by decide +kernel
theorem dd_Mo_write_18 : decode prog_7_method_44_code 18 = .ok (.iand, 1) := by decide +kernel
theorem dd_Mo_write_19 : decode prog_7_method_44_code 19 = .ok (.iastore, 1) := by decide +kernel
theorem dd_Mo_write_20 : decode prog_7_method_44_code 20 = .ok (.aload_n 0, 1) := by decide +kernel
theorem dd_Mo_write_21 : decode prog_7_method_44_code 21 = .ok (.getfield 16, 3) := by decide +kernel
theorem dd_Mo_write_24 : decode prog_7_method_44_code 24 = .ok (.bipush 6, 2) := by decide +kernel
theorem dd_Mo_write_26 : decode prog_7_method_44_code 26 = .ok (.iload_n 1, 1) := by decide +kernel
theorem dd_Mo_write_27 : decode prog_7_method_44_code 27 = .ok (.imul, 1) := by decide +kernel
theorem dd_Mo_write_28 : decode prog_7_method_44_code 28 = .ok (.iload_n 2, 1) := by decide +kernel
theorem dd_Mo_write_29 : decode prog_7_method_44_code 29 = .ok (.iadd, 1) := by decide +kernel
theorem dd_Mo_write_30 : decode prog_7_method_44_code 30 = .ok (.iaload, 1) := by decide +kernel
theorem dd_Mo_write_31 : decode prog_7_method_44_code 31 = .ok (.iconst 2, 1) := by decide +kernel
theorem dd_Mo_write_32 : decode prog_7_method_44_code 32 = .ok (.if_icmp .ne (20), 3) := by decide +kernel
theorem dd_Mo_write_35 : decode prog_7_method_44_code 35 = .ok (.aload_n 0, 1) := by decide +kernel
theorem dd_Mo_write_36 : decode prog_7_method_44_code 36 = .ok (.getfield 59, 3) := by decide +kernel
theorem dd_Mo_write_39 : decode prog_7_method_44_code 39 = .ok (.iload 4, 2) := by decide +kernel
theorem dd_Mo_write_41 : decode prog_7_method_44_code 41 = .ok (.iconst 1, 1) := by decide +kernel
theorem dd_Mo_write_42 : decode prog_7_method_44_code 42 = .ok (.iadd, 1) := by decide +kernel
theorem dd_Mo_write_43 : decode prog_7_method_44_code 43 = .ok (.iload_n 3, 1) := by decide +kernel
theorem dd_Mo_write_44 : decode prog_7_method_44_code 44 = .ok (.bipush 8, 2) := by decide +kernel
theorem dd_Mo_write_46 : decode prog_7_method_44_code 46 = .ok (.ishr, 1) := by decide +kernel
theorem dd_Mo_write_47 : decode prog_7_method_44_code 47 = .ok (.sipush 255, 3) := by decide +kernel
theorem dd_Mo_write_50 : decode prog_7_method_44_code 50 = .ok (.iand, 1) := by decide +kernel
theorem dd_Mo_write_51 : decode prog_7_method_44_code 51 = .ok (.iastore, 1) := by decide +kernel
theorem dd_Mo_write_52 : decode prog_7_method_44_code 52 = .ok (.return_, 1) := by decide +kernel
theorem dd_Mo_send_0 : decode prog_7_method_45_code 0 = .ok (.aload_n 0, 1) := by decide +kernel
theorem dd_Mo_send_1 : decode prog_7_method_45_code 1 = .ok (.getfield 200, 3) := by decide +kernel
theorem dd_Mo_send_4 : decode prog_7_method_45_code 4 = .ok (.bipush 100, 2) := by decide +kernel
theorem dd_Mo_send_6 : decode prog_7_method_45_code 6 = .ok (.if_icmp .ge (13), 3) := by decide +kernel
theorem dd_Mo_send_9 : decode prog_7_method_45_code 9 = .ok (.aload_n 0, 1) := by decide +kernel
theorem dd_Mo_send_10 : decode prog_7_method_45_code 10 = .ok (.getfield 62, 3) := by decide +kernel
theorem dd_Mo_send_13 : decode prog_7_method_45_code 13 = .ok (.aload_n 0, 1) := by decide +kernel
theorem dd_Mo_send_14 : decode prog_7_method_45_code 14 = .ok (.getfield 200, 3) := by decide +kernel
theorem dd_Mo_send_17 : decode prog_7_method_45_code 17 = .ok (.iload_n 1, 1) := by decide +kernel
theorem dd_Mo_send_18 : decode prog_7_method_45_code 18 = .ok (.iastore, 1) := by decide +kernel
theorem dd_Mo_send_19 : decode prog_7_method_45_code 19 = .ok (.aload_n 0, 1) := by decide +kernel
theorem dd_Mo_send_20 : decode prog_7_method_45_code 20 = .ok (.dup, 1) := by decide +kernel
theorem dd_Mo_send_21 : decode prog_7_method_45_code 21 = .ok (.getfield 200, 3) := by decide +kernel
theorem dd_Mo_send_24 : decode prog_7_method_45_code 24 = .ok (.iconst 1, 1) := by decide +kernel
theorem dd_Mo_send_25 : decode prog_7_method_45_code 25 = .ok (.iadd, 1) := by decide +kernel
theorem dd_Mo_send_26 : decode prog_7_method_45_code 26 = .ok (.putfield 200, 3) := by decide +kernel
theorem dd_Mo_send_29 : decode prog_7_method_45_code 29 = .ok (.return_, 1) := by decide +kernel
theorem dd_Mo_compute_0 : decode prog_7_method_46_code 0 = .ok (.iload_n 1, 1) := by decide +kernel
theorem dd_Mo_compute_1 : decode prog_7_method_46_code 1 = .ok (.tableswitch (61) (1) (6) #[39, 41, 45, 49, 53, 57], 39) := by decide +kernel
theorem dd_Mo_compute_40 : decode prog_7_method_46_code 40 = .ok (.iload_n 2, 1) := by decide +kernel
theorem dd_Mo_compute_41 : decode prog_7_method_46_code 41 = .ok (.ireturn, 1) := by decide +kernel
theorem dd_Mo_compute_42 : decode prog_7_method_46_code 42 = .ok (.iload_n 2, 1) := by decide +kernel
theorem dd_Mo_compute_43 : decode prog_7_method_46_code 43 = .ok (.iload_n 3, 1) := by decide +kernel
theorem dd_Mo_compute_44 : decode prog_7_method_46_code 44 = .ok (.iadd, 1) := by decide +kernel
theorem dd_Mo_compute_45 : decode prog_7_method_46_code 45 = .ok (.ireturn, 1) := by decide +kernel
theorem dd_Mo_compute_46 : decode prog_7_method_46_code 46 = .ok (.iload_n 2, 1) := by decide +kernel
theorem dd_Mo_compute_47 : decode prog_7_method_46_code 47 = .ok (.iload_n 3, 1) := by decide +kernel
theorem dd_Mo_compute_48 : decode prog_7_method_46_code 48 = .ok (.isub, 1) := by decide +kernel
theorem dd_Mo_compute_49 : decode prog_7_method_46_code 49 = .ok (.ireturn, 1) := by decide +kernel
theorem dd_Mo_compute_50 : decode prog_7_method_46_code 50 = .ok (.iload_n 2, 1) := by decide +kernel
theorem dd_Mo_compute_51 : decode prog_7_method_46_code 51 = .ok (.iload_n 3, 1) := by decide +kernel
theorem dd_Mo_compute_52 : decode prog_7_method_46_code 52 = .ok (.iand, 1) := by decide +kernel
theorem dd_Mo_compute_53 : decode prog_7_method_46_code 53 = .ok (.ireturn, 1) := by decide +kernel
theorem dd_Mo_compute_54 : decode prog_7_method_46_code 54 = .ok (.iload_n 2, 1) := by decide +kernel
theorem dd_Mo_compute_55 : decode prog_7_method_46_code 55 = .ok (.iload_n 3, 1) := by decide +kernel
theorem dd_Mo_compute_56 : decode prog_7_method_46_code 56 = .ok (.ior, 1) := by decide +kernel
theorem dd_Mo_compute_57 : decode prog_7_method_46_code 57 = .ok (.ireturn, 1) := by decide +kernel
theorem dd_Mo_compute_58 : decode prog_7_method_46_code 58 = .ok (.iload_n 2, 1) := by decide +kernel
theorem dd_Mo_compute_59 : decode prog_7_method_46_code 59 = .ok (.iload_n 3, 1) := by decide +kernel
theorem dd_Mo_compute_60 : decode prog_7_method_46_code 60 = .ok (.ixor, 1) := by decide +kernel
theorem dd_Mo_compute_61 : decode prog_7_method_46_code 61 = .ok (.ireturn, 1) := by decide +kernel
theorem dd_Mo_compute_62 : decode prog_7_method_46_code 62 = .ok (.iload_n 2, 1) := by decide +kernel
theorem dd_Mo_compute_63 : decode prog_7_method_46_code 63 = .ok (.iload_n 2, 1) := by decide +kernel
theorem dd_Mo_compute_64 : decode prog_7_method_46_code 64 = .ok (.iadd, 1) := by decide +kernel
theorem dd_Mo_compute_65 : decode prog_7_method_46_code 65 = .ok (.ireturn, 1) := by decide +kernel
theorem dd_Mo_decide_0 : decode prog_7_method_47_code 0 = .ok (.aload_n 0, 1) := by decide +kernel
theorem dd_Mo_decide_1 : decode prog_7_method_47_code 1 = .ok (.dup, 1) := by decide +kernel
theorem dd_Mo_decide_2 : decode prog_7_method_47_code 2 = .ok (.getfield 197, 3) := by decide +kernel
theorem dd_Mo_decide_5 : decode prog_7_method_47_code 5 = .ok (.aload_n 0, 1) := by decide +kernel
theorem dd_Mo_decide_6 : decode prog_7_method_47_code 6 = .ok (.getfield 47, 3) := by decide +kernel
theorem dd_Mo_decide_9 : decode prog_7_method_47_code 9 = .ok (.iload_n 1, 1) := by decide +kernel
theorem dd_Mo_decide_10 : decode prog_7_method_47_code 10 = .ok (.baload, 1) := by decide +kernel
theorem dd_Mo_decide_11 : decode prog_7_method_47_code 11 = .ok (.ifCond .eq (11), 3) := by decide +kernel
theorem dd_Mo_decide_14 : decode prog_7_method_47_code 14 = .ok (.iload_n 2, 1) := by decide +kernel
theorem dd_Mo_decide_15 : decode prog_7_method_47_code 15 = .ok (.ifCond .eq (7), 3) := by decide +kernel
theorem dd_Mo_decide_18 : decode prog_7_method_47_code 18 = .ok (.iconst 2, 1) := by decide +kernel
theorem dd_Mo_decide_19 : decode prog_7_method_47_code 19 = .ok (.goto (4), 3) := by decide +kernel
theorem dd_Mo_decide_22 : decode prog_7_method_47_code 22 = .ok (.iconst 1, 1) := by decide +kernel
theorem dd_Mo_decide_23 : decode prog_7_method_47_code 23 = .ok (.iadd, 1) := by decide +kernel
theorem dd_Mo_decide_24 : decode prog_7_method_47_code 24 = .ok (.putfield 197, 3) := by decide +kernel
theorem dd_Mo_decide_27 : decode prog_7_method_47_code 27 = .ok (.aload_n 0, 1) := by decide +kernel
theorem dd_Mo_decide_28 : decode prog_7_method_47_code 28 = .ok (.getfield 56, 3) := by decide +kernel
theorem dd_Mo_decide_31 : decode prog_7_method_47_code 31 = .ok (.aload_n 0, 1) := by decide +kernel
theorem dd_Mo_decide_32 : decode prog_7_method_47_code 32 = .ok (.getfield 203, 3) := by decide +kernel
theorem dd_Mo_decide_35 : decode prog_7_method_47_code 35 = .ok (.iconst 1, 1) := by decide +kernel
theorem dd_Mo_decide_36 : decode prog_7_method_47_code 36 = .ok (.isub, 1) := by decide +kernel
theorem dd_Mo_decide_37 : decode prog_7_method_47_code 37 = .ok (.iload_n 2, 1) := by decide +kernel
theorem dd_Mo_decide_38 : decode prog_7_method_47_code 38 = .ok (.ifCond .eq (19), 3) := by decide +kernel
theorem dd_Mo_decide_41 : decode prog_7_method_47_code 41 = .ok (.iload_n 1, 1) := by decide +kernel
theorem dd_Mo_decide_42 : decode prog_7_method_47_code 42 = .ok (.bipush 24, 2) := by decide +kernel
theorem dd_Mo_decide_44 : decode prog_7_method_47_code 44 = .ok (.idiv, 1) := by decide +kernel
theorem dd_Mo_decide_45 : decode prog_7_method_47_code 45 = .ok (.bipush 24, 2) := by decide +kernel
theorem dd_Mo_decide_47 : decode prog_7_method_47_code 47 = .ok (.imul, 1) := by decide +kernel
theorem dd_Mo_decide_48 : decode prog_7_method_47_code 48 = .ok (.aload_n 0, 1) := by decide +kernel
theorem dd_Mo_decide_49 : decode prog_7_method_47_code 49 = .ok (.iload_n 1, 1) := by decide +kernel
theorem dd_Mo_decide_50 : decode prog_7_method_47_code 50 = .ok (.invokevirtual 98, 3) := by decide +kernel
theorem dd_Mo_decide_53 : decode prog_7_method_47_code 53 = .ok (.iadd, 1) := by decide +kernel
theorem dd_Mo_decide_54 : decode prog_7_method_47_code 54 = .ok (.goto (6), 3) := by decide +kernel
theorem dd_Mo_decide_57 : decode prog_7_method_47_code 57 = .ok (.iload_n 1, 1) := by decide +kernel
theorem dd_Mo_decide_58 : decode prog_7_method_47_code 58 = .ok (.iconst 1, 1) := by decide +kernel
theorem dd_Mo_decide_59 : decode prog_7_method_47_code 59 = .ok (.iadd, 1) := by decide +kernel
theorem dd_Mo_decide_60 : decode prog_7_method_47_code 60 = .ok (.iastore, 1) := by decide +kernel
theorem dd_Mo_decide_61 : decode prog_7_method_47_code 61 = .ok (.return_, 1) := by decide +kernel
theorem dd_Mo_touch_0 : decode prog_7_method_48_code 0 = .ok (.aload_n 0, 1) := by decide +kernel
theorem dd_Mo_touch_1 : decode prog_7_method_48_code 1 = .ok (.getfield 19, 3) := by decide +kernel
theorem dd_Mo_touch_4 : decode prog_7_method_48_code 4 = .ok (.iload_n 2, 1) := by decide +kernel
theorem dd_Mo_touch_5 : decode prog_7_method_48_code 5 = .ok (.iaload, 1) := by decide +kernel
theorem dd_Mo_touch_6 : decode prog_7_method_48_code 6 = .ok (.bipush 8, 2) := by decide +kernel
theorem dd_Mo_touch_8 : decode prog_7_method_48_code 8 = .ok (.if_icmp .ne (7), 3) := by decide +kernel
theorem dd_Mo_touch_11 : decode prog_7_method_48_code 11 = .ok (.iconst 1, 1) := by decide +kernel
theorem dd_Mo_touch_12 : decode prog_7_method_48_code 12 = .ok (.goto (4), 3) := by decide +kernel
theorem dd_Mo_touch_15 : decode prog_7_method_48_code 15 = .ok (.iconst 0, 1) := by decide +kernel
theorem dd_Mo_touch_16 : decode prog_7_method_48_code 16 = .ok (.istore_n 3, 1) := by decide +kernel
theorem dd_Mo_touch_17 : decode prog_7_method_48_code 17 = .ok (.iload_n 3, 1) := by decide +kernel
theorem dd_Mo_touch_18 : decode prog_7_method_48_code 18 = .ok (.ifCond .eq (12), 3) := by decide +kernel
theorem dd_Mo_touch_21 : decode prog_7_method_48_code 21 = .ok (.aload_n 0, 1) := by decide +kernel
theorem dd_Mo_touch_22 : decode prog_7_method_48_code 22 = .ok (.getfield 25, 3) := by decide +kernel
theorem dd_Mo_touch_25 : decode prog_7_method_48_code 25 = .ok (.iload_n 2, 1) := by decide +kernel
theorem dd_Mo_touch_26 : decode prog_7_method_48_code 26 = .ok (.iaload, 1) := by decide +kernel
theorem dd_Mo_touch_27 : decode prog_7_method_48_code 27 = .ok (.goto (9), 3) := by decide +kernel
theorem dd_Mo_touch_30 : decode prog_7_method_48_code 30 = .ok (.aload_n 0, 1) := by decide +kernel
theorem dd_Mo_touch_31 : decode prog_7_method_48_code 31 = .ok (.getfield 22, 3) := by decide +kernel
theorem dd_Mo_touch_34 : decode prog_7_method_48_code 34 = .ok (.iload_n 2, 1) := by decide +kernel
theorem dd_Mo_touch_35 : decode prog_7_method_48_code 35 = .ok (.iaload, 1) := by decide +kernel
theorem dd_Mo_touch_36 : decode prog_7_method_48_code 36 = .ok (.istore 4, 2) := by decide +kernel
theorem dd_Mo_touch_38 : decode prog_7_method_48_code 38 = .ok (.aload_n 0, 1) := by decide +kernel
theorem dd_Mo_touch_39 : decode prog_7_method_48_code 39 = .ok (.iload_n 1, 1) := by decide +kernel
theorem dd_Mo_touch_40 : decode prog_7_method_48_code 40 = .ok (.iload_n 3, 1) := by decide +kernel
theorem dd_Mo_touch_41 : decode prog_7_method_48_code 41 = .ok (.ifCond .eq (12), 3) := by decide +kernel
theorem dd_Mo_touch_44 : decode prog_7_method_48_code 44 = .ok (.aload_n 0, 1) := by decide +kernel
theorem dd_Mo_touch_45 : decode prog_7_method_48_code 45 = .ok (.getfield 28, 3) := by decide +kernel
theorem dd_Mo_touch_48 : decode prog_7_method_48_code 48 = .ok (.iload_n 2, 1) := by decide +kernel
theorem dd_Mo_touch_49 : decode prog_7_method_48_code 49 = .ok (.iaload, 1) := by decide +kernel
theorem dd_Mo_touch_50 : decode prog_7_method_48_code 50 = .ok (.goto (9), 3) := by decide +kernel
theorem dd_Mo_touch_53 : decode prog_7_method_48_code 53 = .ok (.aload_n 0, 1) := by decide +kernel
theorem dd_Mo_touch_54 : decode prog_7_method_48_code 54 = .ok (.getfield 25, 3) := by decide +kernel
theorem dd_Mo_touch_57 : decode prog_7_method_48_code 57 = .ok (.iload_n 2, 1) := by decide +kernel
theorem dd_Mo_touch_58 : decode prog_7_method_48_code 58 = .ok (.iaload, 1) := by decide +kernel
theorem dd_Mo_touch_59 : decode prog_7_method_48_code 59 = .ok (.invokevirtual 206, 3) := by decide +kernel
theorem dd_Mo_touch_62 : decode prog_7_method_48_code 62 = .ok (.istore 5, 2) := by decide +kernel
theorem dd_Mo_touch_64 : decode prog_7_method_48_code 64 = .ok (.iload 5, 2) := by decide +kernel
theorem dd_Mo_touch_66 : decode prog_7_method_48_code 66 = .ok (.aload_n 0, 1) := by decide +kernel
theorem dd_Mo_touch_67 : decode prog_7_method_48_code 67 = .ok (.getfield 16, 3) := by decide +kernel
theorem dd_Mo_touch_70 : decode prog_7_method_48_code 70 = .ok (.bipush 6, 2) := by decide +kernel
theorem dd_Mo_touch_72 : decode prog_7_method_48_code 72 = .ok (.iload_n 1, 1) := by decide +kernel
theorem dd_Mo_touch_73 : decode prog_7_method_48_code 73 = .ok (.imul, 1) := by decide +kernel
theorem dd_Mo_touch_74 : decode prog_7_method_48_code 74 = .ok (.iload 4, 2) := by decide +kernel
theorem dd_Mo_touch_76 : decode prog_7_method_48_code 76 = .ok (.iadd, 1) := by decide +kernel
theorem dd_Mo_touch_77 : decode prog_7_method_48_code 77 = .ok (.iaload, 1) := by decide +kernel
theorem dd_Mo_touch_78 : decode prog_7_method_48_code 78 = .ok (.if_icmp .lt (26), 3) := by decide +kernel
theorem dd_Mo_touch_81 : decode prog_7_method_48_code 81 = .ok (.aload_n 0, 1) := by decide +kernel
theorem dd_Mo_touch_82 : decode prog_7_method_48_code 82 = .ok (.iconst 2, 1) := by decide +kernel
theorem dd_Mo_touch_83 : decode prog_7_method_48_code 83 = .ok (.putfield 194, 3) := by decide +kernel
theorem dd_Mo_touch_86 : decode prog_7_method_48_code 86 = .ok (.aload_n 0, 1) := by decide +kernel
theorem dd_Mo_touch_87 : decode prog_7_method_48_code 87 = .ok (.dup, 1) := by decide +kernel
theorem dd_Mo_touch_88 : decode prog_7_method_48_code 88 = .ok (.getfield 197, 3) := by decide +kernel
theorem dd_Mo_touch_91 : decode prog_7_method_48_code 91 = .ok (.iconst 4, 1) := by decide +kernel
theorem dd_Mo_touch_92 : decode prog_7_method_48_code 92 = .ok (.aload_n 0, 1) := by decide +kernel
theorem dd_Mo_touch_93 : decode prog_7_method_48_code 93 = .ok (.getfield 50, 3) := by decide +kernel
theorem dd_Mo_touch_96 : decode prog_7_method_48_code 96 = .ok (.iload_n 2, 1) := by decide +kernel
theorem dd_Mo_touch_97 : decode prog_7_method_48_code 97 = .ok (.iaload, 1) := by decide +kernel
theorem dd_Mo_touch_98 : decode prog_7_method_48_code 98 = .ok (.isub, 1) := by decide +kernel
theorem dd_Mo_touch_99 : decode prog_7_method_48_code 99 = .ok (.iadd, 1) := by decide +kernel
theorem dd_Mo_touch_100 : decode prog_7_method_48_code 100 = .ok (.putfield 197, 3) := by decide +kernel
theorem dd_Mo_touch_103 : decode prog_7_method_48_code 103 = .ok (.return_, 1) := by decide +kernel
theorem dd_Mo_touch_104 : decode prog_7_method_48_code 104 = .ok (.aload_n 0, 1) := by decide +kernel
theorem dd_Mo_touch_105 : decode prog_7_method_48_code 105 = .ok (.iload_n 1, 1) := by decide +kernel
theorem dd_Mo_touch_106 : decode prog_7_method_48_code 106 = .ok (.iload 4, 2) := by decide +kernel
theorem dd_Mo_touch_108 : decode prog_7_method_48_code 108 = .ok (.invokevirtual 105, 3) := by decide +kernel
theorem dd_Mo_touch_111 : decode prog_7_method_48_code 111 = .ok (.iload 5, 2) := by decide +kernel
theorem dd_Mo_touch_113 : decode prog_7_method_48_code 113 = .ok (.iadd, 1) := by decide +kernel
theorem dd_Mo_touch_114 : decode prog_7_method_48_code 114 = .ok (.istore 6, 2) := by decide +kernel
theorem dd_Mo_touch_116 : decode prog_7_method_48_code 116 = .ok (.iload_n 3, 1) := by decide +kernel
theorem dd_Mo_touch_117 : decode prog_7_method_48_code 117 = .ok (.ifCond .eq (24), 3) := by decide +kernel
theorem dd_Mo_touch_120 : decode prog_7_method_48_code 120 = .ok (.aload_n 0, 1) := by decide +kernel
theorem dd_Mo_touch_121 : decode prog_7_method_48_code 121 = .ok (.iload_n 1, 1) := by decide +kernel
theorem dd_Mo_touch_122 : decode prog_7_method_48_code 122 = .ok (.aload_n 0, 1) := by decide +kernel
theorem dd_Mo_touch_123 : decode prog_7_method_48_code 123 = .ok (.getfield 22, 3) := by decide +kernel
theorem dd_Mo_touch_126 : decode prog_7_method_48_code 126 = .ok (.iload_n 2, 1) := by decide +kernel
theorem dd_Mo_touch_127 : decode prog_7_method_48_code 127 = .ok (.iaload, 1) := by decide +kernel
theorem dd_Mo_touch_128 : decode prog_7_method_48_code 128 = .ok (.aload_n 0, 1) := by decide +kernel
theorem dd_Mo_touch_129 : decode prog_7_method_48_code 129 = .ok (.getfield 59, 3) := by decide +kernel
theorem dd_Mo_touch_132 : decode prog_7_method_48_code 132 = .ok (.iload 6, 2) := by decide +kernel
theorem dd_Mo_touch_134 : decode prog_7_method_48_code 134 = .ok (.iaload, 1) := by decide +kernel
theorem dd_Mo_touch_135 : decode prog_7_method_48_code 135 = .ok (.invokevirtual 209, 3) := by decide +kernel
theorem dd_Mo_touch_138 : decode prog_7_method_48_code 138 = .ok (.goto (25), 3) := by decide +kernel
theorem dd_Mo_touch_141 : decode prog_7_method_48_code 141 = .ok (.aload_n 0, 1) := by decide +kernel
theorem dd_Mo_touch_142 : decode prog_7_method_48_code 142 = .ok (.getfield 59, 3) := by decide +kernel
theorem dd_Mo_touch_145 : decode prog_7_method_48_code 145 = .ok (.iload 6, 2) := by decide +kernel
theorem dd_Mo_touch_147 : decode prog_7_method_48_code 147 = .ok (.aload_n 0, 1) := by decide +kernel
theorem dd_Mo_touch_148 : decode prog_7_method_48_code 148 = .ok (.iload_n 1, 1) := by decide +kernel
theorem dd_Mo_touch_149 : decode prog_7_method_48_code 149 = .ok (.aload_n 0, 1) := by decide +kernel
theorem dd_Mo_touch_150 : decode prog_7_method_48_code 150 = .ok (.getfield 28, 3) := by decide +kernel
theorem dd_Mo_touch_153 : decode prog_7_method_48_code 153 = .ok (.iload_n 2, 1) := by decide +kernel
theorem dd_Mo_touch_154 : decode prog_7_method_48_code 154 = .ok (.iaload, 1) := by decide +kernel
theorem dd_Mo_touch_155 : decode prog_7_method_48_code 155 = .ok (.invokevirtual 206, 3) := by decide +kernel
theorem dd_Mo_touch_158 : decode prog_7_method_48_code 158 = .ok (.sipush 255, 3) := by decide +kernel
theorem dd_Mo_touch_161 : decode prog_7_method_48_code 161 = .ok (.iand, 1) := by decide +kernel
theorem dd_Mo_touch_162 : decode prog_7_method_48_code 162 = .ok (.iastore, 1) := by decide +kernel
theorem dd_Mo_touch_163 : decode prog_7_method_48_code 163 = .ok (.aload_n 0, 1) := by decide +kernel
theorem dd_Mo_touch_164 : decode prog_7_method_48_code 164 = .ok (.getfield 56, 3) := by decide +kernel
theorem dd_Mo_touch_167 : decode prog_7_method_48_code 167 = .ok (.aload_n 0, 1) := by decide +kernel
theorem dd_Mo_touch_168 : decode prog_7_method_48_code 168 = .ok (.getfield 203, 3) := by decide +kernel
theorem dd_Mo_touch_171 : decode prog_7_method_48_code 171 = .ok (.iconst 1, 1) := by decide +kernel
theorem dd_Mo_touch_172 : decode prog_7_method_48_code 172 = .ok (.isub, 1) := by decide +kernel
theorem dd_Mo_touch_173 : decode prog_7_method_48_code 173 = .ok (.iload_n 2, 1) := by decide +kernel
theorem dd_Mo_touch_174 : decode prog_7_method_48_code 174 = .ok (.iconst 1, 1) := by decide +kernel
theorem dd_Mo_touch_175 : decode prog_7_method_48_code 175 = .ok (.iadd, 1) := by decide +kernel
theorem dd_Mo_touch_176 : decode prog_7_method_48_code 176 = .ok (.iastore, 1) := by decide +kernel
theorem dd_Mo_touch_177 : decode prog_7_method_48_code 177 = .ok (.return_, 1) := by decide +kernel
theorem dd_Mo_enter_0 : decode prog_7_method_49_code 0 = .ok (.aload_n 0, 1) := by decide +kernel
theorem dd_Mo_enter_1 : decode prog_7_method_49_code 1 = .ok (.getfield 22, 3) := by decide +kernel
theorem dd_Mo_enter_4 : decode prog_7_method_49_code 4 = .ok (.iload_n 2, 1) := by decide +kernel
theorem dd_Mo_enter_5 : decode prog_7_method_49_code 5 = .ok (.iaload, 1) := by decide +kernel
theorem dd_Mo_enter_6 : decode prog_7_method_49_code 6 = .ok (.istore_n 3, 1) := by decide +kernel
theorem dd_Mo_enter_7 : decode prog_7_method_49_code 7 = .ok (.aload_n 0, 1) := by decide +kernel
theorem dd_Mo_enter_8 : decode prog_7_method_49_code 8 = .ok (.getfield 7, 3) := by decide +kernel
theorem dd_Mo_enter_11 : decode prog_7_method_49_code 11 = .ok (.iload_n 3, 1) := by decide +kernel
theorem dd_Mo_enter_12 : decode prog_7_method_49_code 12 = .ok (.iaload, 1) := by decide +kernel
theorem dd_Mo_enter_13 : decode prog_7_method_49_code 13 = .ok (.ifCond .le (37), 3) := by decide +kernel
theorem dd_Mo_enter_16 : decode prog_7_method_49_code 16 = .ok (.aload_n 0, 1) := by decide +kernel
theorem dd_Mo_enter_17 : decode prog_7_method_49_code 17 = .ok (.getfield 16, 3) := by decide +kernel
theorem dd_Mo_enter_20 : decode prog_7_method_49_code 20 = .ok (.bipush 6, 2) := by decide +kernel
theorem dd_Mo_enter_22 : decode prog_7_method_49_code 22 = .ok (.iload_n 3, 1) := by decide +kernel
theorem dd_Mo_enter_23 : decode prog_7_method_49_code 23 = .ok (.imul, 1) := by decide +kernel
theorem dd_Mo_enter_24 : decode prog_7_method_49_code 24 = .ok (.iaload, 1) := by decide +kernel
theorem dd_Mo_enter_25 : decode prog_7_method_49_code 25 = .ok (.iconst 3, 1) := by decide +kernel
theorem dd_Mo_enter_26 : decode prog_7_method_49_code 26 = .ok (.if_icmp .ge (24), 3) := by decide +kernel
theorem dd_Mo_enter_29 : decode prog_7_method_49_code 29 = .ok (.aload_n 0, 1) := by decide +kernel
theorem dd_Mo_enter_30 : decode prog_7_method_49_code 30 = .ok (.iload_n 1, 1) := by decide +kernel
theorem dd_Mo_enter_31 : decode prog_7_method_49_code 31 = .ok (.aload_n 0, 1) := by decide +kernel
theorem dd_Mo_enter_32 : decode prog_7_method_49_code 32 = .ok (.getfield 25, 3) := by decide +kernel
theorem dd_Mo_enter_35 : decode prog_7_method_49_code 35 = .ok (.iload_n 2, 1) := by decide +kernel
theorem dd_Mo_enter_36 : decode prog_7_method_49_code 36 = .ok (.iaload, 1) := by decide +kernel
theorem dd_Mo_enter_37 : decode prog_7_method_49_code 37 = .ok (.invokevirtual 206, 3) := by decide +kernel
theorem dd_Mo_enter_40 : decode prog_7_method_49_code 40 = .ok (.istore 4, 2) := by decide +kernel
theorem dd_Mo_enter_42 : decode prog_7_method_49_code 42 = .ok (.aload_n 0, 1) := by decide +kernel
theorem dd_Mo_enter_43 : decode prog_7_method_49_code 43 = .ok (.iload_n 3, 1) := by decide +kernel
theorem dd_Mo_enter_44 : decode prog_7_method_49_code 44 = .ok (.iconst 0, 1) := by decide +kernel
theorem dd_Mo_enter_45 : decode prog_7_method_49_code 45 = .ok (.iload 4, 2) := by decide +kernel
theorem dd_Mo_enter_47 : decode prog_7_method_49_code 47 = .ok (.invokevirtual 209, 3) := by decide +kernel
theorem dd_Mo_enter_50 : decode prog_7_method_49_code 50 = .ok (.aload_n 0, 1) := by decide +kernel
theorem dd_Mo_enter_51 : decode prog_7_method_49_code 51 = .ok (.getfield 56, 3) := by decide +kernel
theorem dd_Mo_enter_54 : decode prog_7_method_49_code 54 = .ok (.aload_n 0, 1) := by decide +kernel
theorem dd_Mo_enter_55 : decode prog_7_method_49_code 55 = .ok (.getfield 203, 3) := by decide +kernel
theorem dd_Mo_enter_58 : decode prog_7_method_49_code 58 = .ok (.bipush 24, 2) := by decide +kernel
theorem dd_Mo_enter_60 : decode prog_7_method_49_code 60 = .ok (.iload_n 3, 1) := by decide +kernel
theorem dd_Mo_enter_61 : decode prog_7_method_49_code 61 = .ok (.imul, 1) := by decide +kernel
theorem dd_Mo_enter_62 : decode prog_7_method_49_code 62 = .ok (.iastore, 1) := by decide +kernel
theorem dd_Mo_enter_63 : decode prog_7_method_49_code 63 = .ok (.aload_n 0, 1) := by decide +kernel
theorem dd_Mo_enter_64 : decode prog_7_method_49_code 64 = .ok (.dup, 1) := by decide +kernel
theorem dd_Mo_enter_65 : decode prog_7_method_49_code 65 = .ok (.getfield 203, 3) := by decide +kernel
theorem dd_Mo_enter_68 : decode prog_7_method_49_code 68 = .ok (.iconst 1, 1) := by decide +kernel
theorem dd_Mo_enter_69 : decode prog_7_method_49_code 69 = .ok (.iadd, 1) := by decide +kernel
theorem dd_Mo_enter_70 : decode prog_7_method_49_code 70 = .ok (.putfield 203, 3) := by decide +kernel
theorem dd_Mo_enter_73 : decode prog_7_method_49_code 73 = .ok (.return_, 1) := by decide +kernel
theorem dd_Mo_leave_0 : decode prog_7_method_50_code 0 = .ok (.aload_n 0, 1) := by decide +kernel
theorem dd_Mo_leave_1 : decode prog_7_method_50_code 1 = .ok (.iload_n 1, 1) := by decide +kernel
theorem dd_Mo_leave_2 : decode prog_7_method_50_code 2 = .ok (.aload_n 0, 1) := by decide +kernel
theorem dd_Mo_leave_3 : decode prog_7_method_50_code 3 = .ok (.getfield 22, 3) := by decide +kernel
theorem dd_Mo_leave_6 : decode prog_7_method_50_code 6 = .ok (.iload_n 2, 1) := by decide +kernel
theorem dd_Mo_leave_7 : decode prog_7_method_50_code 7 = .ok (.iaload, 1) := by decide +kernel
theorem dd_Mo_leave_8 : decode prog_7_method_50_code 8 = .ok (.invokevirtual 206, 3) := by decide +kernel
theorem dd_Mo_leave_11 : decode prog_7_method_50_code 11 = .ok (.istore_n 3, 1) := by decide +kernel
theorem dd_Mo_leave_12 : decode prog_7_method_50_code 12 = .ok (.aload_n 0, 1) := by decide +kernel
theorem dd_Mo_leave_13 : decode prog_7_method_50_code 13 = .ok (.getfield 59, 3) := by decide +kernel
theorem dd_Mo_leave_16 : decode prog_7_method_50_code 16 = .ok (.bipush 126, 2) := by decide +kernel
theorem dd_Mo_leave_18 : decode prog_7_method_50_code 18 = .ok (.iload_n 3, 1) := by decide +kernel
theorem dd_Mo_leave_19 : decode prog_7_method_50_code 19 = .ok (.sipush 255, 3) := by decide +kernel
theorem dd_Mo_leave_22 : decode prog_7_method_50_code 22 = .ok (.iand, 1) := by decide +kernel
theorem dd_Mo_leave_23 : decode prog_7_method_50_code 23 = .ok (.iastore, 1) := by decide +kernel
theorem dd_Mo_leave_24 : decode prog_7_method_50_code 24 = .ok (.aload_n 0, 1) := by decide +kernel
theorem dd_Mo_leave_25 : decode prog_7_method_50_code 25 = .ok (.getfield 59, 3) := by decide +kernel
theorem dd_Mo_leave_28 : decode prog_7_method_50_code 28 = .ok (.bipush 127, 2) := by decide +kernel
theorem dd_Mo_leave_30 : decode prog_7_method_50_code 30 = .ok (.iload_n 3, 1) := by decide +kernel
theorem dd_Mo_leave_31 : decode prog_7_method_50_code 31 = .ok (.bipush 8, 2) := by decide +kernel
theorem dd_Mo_leave_33 : decode prog_7_method_50_code 33 = .ok (.ishr, 1) := by decide +kernel
theorem dd_Mo_leave_34 : decode prog_7_method_50_code 34 = .ok (.iastore, 1) := by decide +kernel
theorem dd_Mo_leave_35 : decode prog_7_method_50_code 35 = .ok (.aload_n 0, 1) := by decide +kernel
theorem dd_Mo_leave_36 : decode prog_7_method_50_code 36 = .ok (.dup, 1) := by decide +kernel
theorem dd_Mo_leave_37 : decode prog_7_method_50_code 37 = .ok (.getfield 203, 3) := by decide +kernel
theorem dd_Mo_leave_40 : decode prog_7_method_50_code 40 = .ok (.iconst 1, 1) := by decide +kernel
theorem dd_Mo_leave_41 : decode prog_7_method_50_code 41 = .ok (.isub, 1) := by decide +kernel
theorem dd_Mo_leave_42 : decode prog_7_method_50_code 42 = .ok (.putfield 203, 3) := by decide +kernel
theorem dd_Mo_leave_45 : decode prog_7_method_50_code 45 = .ok (.aload_n 0, 1) := by decide +kernel
theorem dd_Mo_leave_46 : decode prog_7_method_50_code 46 = .ok (.getfield 203, 3) := by decide +kernel
theorem dd_Mo_leave_49 : decode prog_7_method_50_code 49 = .ok (.ifCond .ne (9), 3) := by decide +kernel
theorem dd_Mo_leave_52 : decode prog_7_method_50_code 52 = .ok (.aload_n 0, 1) := by decide +kernel
theorem dd_Mo_leave_53 : decode prog_7_method_50_code 53 = .ok (.iconst 1, 1) := by decide +kernel
theorem dd_Mo_leave_54 : decode prog_7_method_50_code 54 = .ok (.putfield 194, 3) := by decide +kernel
theorem dd_Mo_leave_57 : decode prog_7_method_50_code 57 = .ok (.return_, 1) := by decide +kernel
theorem dd_Mo_leave_58 : decode prog_7_method_50_code 58 = .ok (.aload_n 0, 1) := by decide +kernel
theorem dd_Mo_leave_59 : decode prog_7_method_50_code 59 = .ok (.getfield 56, 3) := by decide +kernel
theorem dd_Mo_leave_62 : decode prog_7_method_50_code 62 = .ok (.aload_n 0, 1) := by decide +kernel
theorem dd_Mo_leave_63 : decode prog_7_method_50_code 63 = .ok (.getfield 203, 3) := by decide +kernel
theorem dd_Mo_leave_66 : decode prog_7_method_50_code 66 = .ok (.iconst 1, 1) := by decide +kernel
theorem dd_Mo_leave_67 : decode prog_7_method_50_code 67 = .ok (.isub, 1) := by decide +kernel
theorem dd_Mo_leave_68 : decode prog_7_method_50_code 68 = .ok (.iaload, 1) := by decide +kernel
theorem dd_Mo_leave_69 : decode prog_7_method_50_code 69 = .ok (.istore 4, 2) := by decide +kernel
theorem dd_Mo_leave_71 : decode prog_7_method_50_code 71 = .ok (.aload_n 0, 1) := by decide +kernel
theorem dd_Mo_leave_72 : decode prog_7_method_50_code 72 = .ok (.iload 4, 2) := by decide +kernel
theorem dd_Mo_leave_74 : decode prog_7_method_50_code 74 = .ok (.bipush 24, 2) := by decide +kernel
theorem dd_Mo_leave_76 : decode prog_7_method_50_code 76 = .ok (.idiv, 1) := by decide +kernel
theorem dd_Mo_leave_77 : decode prog_7_method_50_code 77 = .ok (.aload_n 0, 1) := by decide +kernel
theorem dd_Mo_leave_78 : decode prog_7_method_50_code 78 = .ok (.getfield 28, 3) := by decide +kernel
theorem dd_Mo_leave_81 : decode prog_7_method_50_code 81 = .ok (.iload 4, 2) := by decide +kernel
theorem dd_Mo_leave_83 : decode prog_7_method_50_code 83 = .ok (.iaload, 1) := by decide +kernel
theorem dd_Mo_leave_84 : decode prog_7_method_50_code 84 = .ok (.iload_n 3, 1) := by decide +kernel
theorem dd_Mo_leave_85 : decode prog_7_method_50_code 85 = .ok (.invokevirtual 209, 3) := by decide +kernel
theorem dd_Mo_leave_88 : decode prog_7_method_50_code 88 = .ok (.aload_n 0, 1) := by decide +kernel
theorem dd_Mo_leave_89 : decode prog_7_method_50_code 89 = .ok (.dup, 1) := by decide +kernel
theorem dd_Mo_leave_90 : decode prog_7_method_50_code 90 = .ok (.getfield 197, 3) := by decide +kernel
theorem dd_Mo_leave_93 : decode prog_7_method_50_code 93 = .ok (.aload_n 0, 1) := by decide +kernel
theorem dd_Mo_leave_94 : decode prog_7_method_50_code 94 = .ok (.getfield 53, 3) := by decide +kernel
theorem dd_Mo_leave_97 : decode prog_7_method_50_code 97 = .ok (.iload 4, 2) := by decide +kernel
theorem dd_Mo_leave_99 : decode prog_7_method_50_code 99 = .ok (.iaload, 1) := by decide +kernel
theorem dd_Mo_leave_100 : decode prog_7_method_50_code 100 = .ok (.iadd, 1) := by decide +kernel
theorem dd_Mo_leave_101 : decode prog_7_method_50_code 101 = .ok (.putfield 197, 3) := by decide +kernel
theorem dd_Mo_leave_104 : decode prog_7_method_50_code 104 = .ok (.aload_n 0, 1) := by decide +kernel
theorem dd_Mo_leave_105 : decode prog_7_method_50_code 105 = .ok (.getfield 56, 3) := by decide +kernel
theorem dd_Mo_leave_108 : decode prog_7_method_50_code 108 = .ok (.aload_n 0, 1) := by decide +kernel
theorem dd_Mo_leave_109 : decode prog_7_method_50_code 109 = .ok (.getfield 203, 3) := by decide +kernel
theorem dd_Mo_leave_112 : decode prog_7_method_50_code 112 = .ok (.iconst 1, 1) := by decide +kernel
theorem dd_Mo_leave_113 : decode prog_7_method_50_code 113 = .ok (.isub, 1) := by decide +kernel
theorem dd_Mo_leave_114 : decode prog_7_method_50_code 114 = .ok (.iload 4, 2) := by decide +kernel
theorem dd_Mo_leave_116 : decode prog_7_method_50_code 116 = .ok (.iconst 1, 1) := by decide +kernel
theorem dd_Mo_leave_117 : decode prog_7_method_50_code 117 = .ok (.iadd, 1) := by decide +kernel
theorem dd_Mo_leave_118 : decode prog_7_method_50_code 118 = .ok (.iastore, 1) := by decide +kernel
theorem dd_Mo_leave_119 : decode prog_7_method_50_code 119 = .ok (.return_, 1) := by decide +kernel
theorem dd_Mo_step_0 : decode prog_7_method_51_code 0 = .ok (.aload_n 0, 1) := by decide +kernel
theorem dd_Mo_step_1 : decode prog_7_method_51_code 1 = .ok (.getfield 56, 3) := by decide +kernel
theorem dd_Mo_step_4 : decode prog_7_method_51_code 4 = .ok (.aload_n 0, 1) := by decide +kernel
theorem dd_Mo_step_5 : decode prog_7_method_51_code 5 = .ok (.getfield 203, 3) := by decide +kernel
theorem dd_Mo_step_8 : decode prog_7_method_51_code 8 = .ok (.iconst 1, 1) := by decide +kernel
theorem dd_Mo_step_9 : decode prog_7_method_51_code 9 = .ok (.isub, 1) := by decide +kernel
theorem dd_Mo_step_10 : decode prog_7_method_51_code 10 = .ok (.iaload, 1) := by decide +kernel
theorem dd_Mo_step_11 : decode prog_7_method_51_code 11 = .ok (.istore_n 1, 1) := by decide +kernel
theorem dd_Mo_step_12 : decode prog_7_method_51_code 12 = .ok (.iload_n 1, 1) := by decide +kernel
theorem dd_Mo_step_13 : decode prog_7_method_51_code 13 = .ok (.bipush 24, 2) := by decide +kernel
theorem dd_Mo_step_15 : decode prog_7_method_51_code 15 = .ok (.idiv, 1) := by decide +kernel
theorem dd_Mo_step_16 : decode prog_7_method_51_code 16 = .ok (.istore_n 2, 1) := by decide +kernel
theorem dd_Mo_step_17 : decode prog_7_method_51_code 17 = .ok (.aload_n 0, 1) := by decide +kernel
theorem dd_Mo_step_18 : decode prog_7_method_51_code 18 = .ok (.getfield 19, 3) := by decide +kernel
theorem dd_Mo_step_21 : decode prog_7_method_51_code 21 = .ok (.iload_n 1, 1) := by decide +kernel
theorem dd_Mo_step_22 : decode prog_7_method_51_code 22 = .ok (.iaload, 1) := by decide +kernel
theorem dd_Mo_step_23 : decode prog_7_method_51_code 23 = .ok (.istore_n 3, 1) := by decide +kernel
theorem dd_Mo_step_24 : decode prog_7_method_51_code 24 = .ok (.aload_n 0, 1) := by decide +kernel
theorem dd_Mo_step_25 : decode prog_7_method_51_code 25 = .ok (.dup, 1) := by decide +kernel
theorem dd_Mo_step_26 : decode prog_7_method_51_code 26 = .ok (.getfield 197, 3) := by decide +kernel
theorem dd_Mo_step_29 : decode prog_7_method_51_code 29 = .ok (.aload_n 0, 1) := by decide +kernel
theorem dd_Mo_step_30 : decode prog_7_method_51_code 30 = .ok (.getfield 50, 3) := by decide +kernel
theorem dd_Mo_step_33 : decode prog_7_method_51_code 33 = .ok (.iload_n 1, 1) := by decide +kernel
theorem dd_Mo_step_34 : decode prog_7_method_51_code 34 = .ok (.iaload, 1) := by decide +kernel
theorem dd_Mo_step_35 : decode prog_7_method_51_code 35 = .ok (.iadd, 1) := by decide +kernel
theorem dd_Mo_step_36 : decode prog_7_method_51_code 36 = .ok (.putfield 197, 3) := by decide +kernel
theorem dd_Mo_step_39 : decode prog_7_method_51_code 39 = .ok (.iload_n 3, 1) := by decide +kernel
theorem dd_Mo_step_40 : decode prog_7_method_51_code 40 = .ok (.bipush 10, 2) := by decide +kernel
theorem dd_Mo_step_42 : decode prog_7_method_51_code 42 = .ok (.if_icmp .ne (27), 3) := by decide +kernel
theorem dd_Mo_step_45 : decode prog_7_method_51_code 45 = .ok (.aload_n 0, 1) := by decide +kernel
theorem dd_Mo_step_46 : decode prog_7_method_51_code 46 = .ok (.getfield 56, 3) := by decide +kernel
theorem dd_Mo_step_49 : decode prog_7_method_51_code 49 = .ok (.aload_n 0, 1) := by decide +kernel
theorem dd_Mo_step_50 : decode prog_7_method_51_code 50 = .ok (.getfield 203, 3) := by decide +kernel
theorem dd_Mo_step_53 : decode prog_7_method_51_code 53 = .ok (.iconst 1, 1) := by decide +kernel
theorem dd_Mo_step_54 : decode prog_7_method_51_code 54 = .ok (.isub, 1) := by decide +kernel
theorem dd_Mo_step_55 : decode prog_7_method_51_code 55 = .ok (.bipush 24, 2) := by decide +kernel
theorem dd_Mo_step_57 : decode prog_7_method_51_code 57 = .ok (.iload_n 2, 1) := by decide +kernel
theorem dd_Mo_step_58 : decode prog_7_method_51_code 58 = .ok (.imul, 1) := by decide +kernel
theorem dd_Mo_step_59 : decode prog_7_method_51_code 59 = .ok (.aload_n 0, 1) := by decide +kernel
theorem dd_Mo_step_60 : decode prog_7_method_51_code 60 = .ok (.iload_n 1, 1) := by decide +kernel
theorem dd_Mo_step_61 : decode prog_7_method_51_code 61 = .ok (.invokevirtual 98, 3) := by decide +kernel
theorem dd_Mo_step_64 : decode prog_7_method_51_code 64 = .ok (.iadd, 1) := by decide +kernel
theorem dd_Mo_step_65 : decode prog_7_method_51_code 65 = .ok (.iastore, 1) := by decide +kernel
theorem dd_Mo_step_66 : decode prog_7_method_51_code 66 = .ok (.goto (141), 3) := by decide +kernel
theorem dd_Mo_step_69 : decode prog_7_method_51_code 69 = .ok (.iload_n 3, 1) := by decide +kernel
theorem dd_Mo_step_70 : decode prog_7_method_51_code 70 = .ok (.bipush 11, 2) := by decide +kernel
theorem dd_Mo_step_72 : decode prog_7_method_51_code 72 = .ok (.if_icmp .ne (30), 3) := by decide +kernel
theorem dd_Mo_step_75 : decode prog_7_method_51_code 75 = .ok (.aload_n 0, 1) := by decide +kernel
theorem dd_Mo_step_76 : decode prog_7_method_51_code 76 = .ok (.iload_n 1, 1) := by decide +kernel
theorem dd_Mo_step_77 : decode prog_7_method_51_code 77 = .ok (.aload_n 0, 1) := by decide +kernel
theorem dd_Mo_step_78 : decode prog_7_method_51_code 78 = .ok (.iload_n 2, 1) := by decide +kernel
theorem dd_Mo_step_79 : decode prog_7_method_51_code 79 = .ok (.aload_n 0, 1) := by decide +kernel
theorem dd_Mo_step_80 : decode prog_7_method_51_code 80 = .ok (.getfield 22, 3) := by decide +kernel
theorem dd_Mo_step_83 : decode prog_7_method_51_code 83 = .ok (.iload_n 1, 1) := by decide +kernel
theorem dd_Mo_step_84 : decode prog_7_method_51_code 84 = .ok (.iaload, 1) := by decide +kernel
theorem dd_Mo_step_85 : decode prog_7_method_51_code 85 = .ok (.invokevirtual 206, 3) := by decide +kernel
theorem dd_Mo_step_88 : decode prog_7_method_51_code 88 = .ok (.ifCond .ne (7), 3) := by decide +kernel
theorem dd_Mo_step_91 : decode prog_7_method_51_code 91 = .ok (.iconst 1, 1) := by decide +kernel
theorem dd_Mo_step_92 : decode prog_7_method_51_code 92 = .ok (.goto (4), 3) := by decide +kernel
theorem dd_Mo_step_95 : decode prog_7_method_51_code 95 = .ok (.iconst 0, 1) := by decide +kernel
theorem dd_Mo_step_96 : decode prog_7_method_51_code 96 = .ok (.invokevirtual 213, 3) := by decide +kernel
theorem dd_Mo_step_99 : decode prog_7_method_51_code 99 = .ok (.goto (108), 3) := by decide +kernel
theorem dd_Mo_step_102 : decode prog_7_method_51_code 102 = .ok (.iload_n 3, 1) := by decide +kernel
theorem dd_Mo_step_103 : decode prog_7_method_51_code 103 = .ok (.bipush 12, 2) := by decide +kernel
theorem dd_Mo_step_105 : decode prog_7_method_51_code 105 = .ok (.if_icmp .ne (45), 3) := by decide +kernel
theorem dd_Mo_step_108 : decode prog_7_method_51_code 108 = .ok (.aload_n 0, 1) := by decide +kernel
theorem dd_Mo_step_109 : decode prog_7_method_51_code 109 = .ok (.iload_n 2, 1) := by decide +kernel
theorem dd_Mo_step_110 : decode prog_7_method_51_code 110 = .ok (.aload_n 0, 1) := by decide +kernel
theorem dd_Mo_step_111 : decode prog_7_method_51_code 111 = .ok (.getfield 22, 3) := by decide +kernel
theorem dd_Mo_step_114 : decode prog_7_method_51_code 114 = .ok (.iload_n 1, 1) := by decide +kernel
theorem dd_Mo_step_115 : decode prog_7_method_51_code 115 = .ok (.iaload, 1) := by decide +kernel
theorem dd_Mo_step_116 : decode prog_7_method_51_code 116 = .ok (.invokevirtual 206, 3) := by decide +kernel
theorem dd_Mo_step_119 : decode prog_7_method_51_code 119 = .ok (.istore 4, 2) := by decide +kernel
theorem dd_Mo_step_121 : decode prog_7_method_51_code 121 = .ok (.aload_n 0, 1) := by decide +kernel
theorem dd_Mo_step_122 : decode prog_7_method_51_code 122 = .ok (.iload_n 1, 1) := by decide +kernel
theorem dd_Mo_step_123 : decode prog_7_method_51_code 123 = .ok (.iload 4, 2) := by decide +kernel
theorem dd_Mo_step_125 : decode prog_7_method_51_code 125 = .ok (.aload_n 0, 1) := by decide +kernel
theorem dd_Mo_step_126 : decode prog_7_method_51_code 126 = .ok (.iload_n 2, 1) := by decide +kernel
theorem dd_Mo_step_127 : decode prog_7_method_51_code 127 = .ok (.aload_n 0, 1) := by decide +kernel
theorem dd_Mo_step_128 : decode prog_7_method_51_code 128 = .ok (.getfield 25, 3) := by decide +kernel
theorem dd_Mo_step_131 : decode prog_7_method_51_code 131 = .ok (.iload_n 1, 1) := by decide +kernel
theorem dd_Mo_step_132 : decode prog_7_method_51_code 132 = .ok (.iaload, 1) := by decide +kernel
theorem dd_Mo_step_133 : decode prog_7_method_51_code 133 = .ok (.invokevirtual 206, 3) := by decide +kernel
theorem dd_Mo_step_136 : decode prog_7_method_51_code 136 = .ok (.if_icmp .ge (7), 3) := by decide +kernel
theorem dd_Mo_step_139 : decode prog_7_method_51_code 139 = .ok (.iconst 1, 1) := by decide +kernel
theorem dd_Mo_step_140 : decode prog_7_method_51_code 140 = .ok (.goto (4), 3) := by decide +kernel
theorem dd_Mo_step_143 : decode prog_7_method_51_code 143 = .ok (.iconst 0, 1) := by decide +kernel
theorem dd_Mo_step_144 : decode prog_7_method_51_code 144 = .ok (.invokevirtual 213, 3) := by decide +kernel
theorem dd_Mo_step_147 : decode prog_7_method_51_code 147 = .ok (.goto (60), 3) := by decide +kernel
theorem dd_Mo_step_150 : decode prog_7_method_51_code 150 = .ok (.iload_n 3, 1) := by decide +kernel
theorem dd_Mo_step_151 : decode prog_7_method_51_code 151 = .ok (.bipush 8, 2) := by decide +kernel
theorem dd_Mo_step_153 : decode prog_7_method_51_code 153 = .ok (.if_icmp .eq (9), 3) := by decide +kernel
theorem dd_Mo_step_156 : decode prog_7_method_51_code 156 = .ok (.iload_n 3, 1) := by decide +kernel
theorem dd_Mo_step_157 : decode prog_7_method_51_code 157 = .ok (.bipush 9, 2) := by decide +kernel
theorem dd_Mo_step_159 : decode prog_7_method_51_code 159 = .ok (.if_icmp .ne (12), 3) := by decide +kernel
theorem dd_Mo_step_162 : decode prog_7_method_51_code 162 = .ok (.aload_n 0, 1) := by decide +kernel
theorem dd_Mo_step_163 : decode prog_7_method_51_code 163 = .ok (.iload_n 2, 1) := by decide +kernel
theorem dd_Mo_step_164 : decode prog_7_method_51_code 164 = .ok (.iload_n 1, 1) := by decide +kernel
theorem dd_Mo_step_165 : decode prog_7_method_51_code 165 = .ok (.invokevirtual 217, 3) := by decide +kernel
theorem dd_Mo_step_168 : decode prog_7_method_51_code 168 = .ok (.goto (39), 3) := by decide +kernel
theorem dd_Mo_step_171 : decode prog_7_method_51_code 171 = .ok (.iload_n 3, 1) := by decide +kernel
theorem dd_Mo_step_172 : decode prog_7_method_51_code 172 = .ok (.bipush 13, 2) := by decide +kernel
theorem dd_Mo_step_174 : decode prog_7_method_51_code 174 = .ok (.if_icmp .ne (12), 3) := by decide +kernel
theorem dd_Mo_step_177 : decode prog_7_method_51_code 177 = .ok (.aload_n 0, 1) := by decide +kernel
theorem dd_Mo_step_178 : decode prog_7_method_51_code 178 = .ok (.iload_n 2, 1) := by decide +kernel
theorem dd_Mo_step_179 : decode prog_7_method_51_code 179 = .ok (.iload_n 1, 1) := by decide +kernel
theorem dd_Mo_step_180 : decode prog_7_method_51_code 180 = .ok (.invokevirtual 220, 3) := by decide +kernel
theorem dd_Mo_step_183 : decode prog_7_method_51_code 183 = .ok (.goto (24), 3) := by decide +kernel
theorem dd_Mo_step_186 : decode prog_7_method_51_code 186 = .ok (.iload_n 3, 1) := by decide +kernel
theorem dd_Mo_step_187 : decode prog_7_method_51_code 187 = .ok (.bipush 14, 2) := by decide +kernel
theorem dd_Mo_step_189 : decode prog_7_method_51_code 189 = .ok (.if_icmp .ne (12), 3) := by decide +kernel
theorem dd_Mo_step_192 : decode prog_7_method_51_code 192 = .ok (.aload_n 0, 1) := by decide +kernel
theorem dd_Mo_step_193 : decode prog_7_method_51_code 193 = .ok (.iload_n 2, 1) := by decide +kernel
theorem dd_Mo_step_194 : decode prog_7_method_51_code 194 = .ok (.iload_n 1, 1) := by decide +kernel
theorem dd_Mo_step_195 : decode prog_7_method_51_code 195 = .ok (.invokevirtual 223, 3) := by decide +kernel
theorem dd_Mo_step_198 : decode prog_7_method_51_code 198 = .ok (.goto (9), 3) := by decide +kernel
theorem dd_Mo_step_201 : decode prog_7_method_51_code 201 = .ok (.aload_n 0, 1) := by decide +kernel
theorem dd_Mo_step_202 : decode prog_7_method_51_code 202 = .ok (.iload_n 2, 1) := by decide +kernel
theorem dd_Mo_step_203 : decode prog_7_method_51_code 203 = .ok (.iload_n 1, 1) := by decide +kernel
theorem dd_Mo_step_204 : decode prog_7_method_51_code 204 = .ok (.invokevirtual 226, 3) := by decide +kernel
theorem dd_Mo_step_207 : decode prog_7_method_51_code 207 = .ok (.return_, 1) := by decide +kernel
theorem dd_Mo_straight_0 : decode prog_7_method_52_code 0 = .ok (.aload_n 0, 1) := by decide +kernel
theorem dd_Mo_straight_1 : decode prog_7_method_52_code 1 = .ok (.getfield 19, 3) := by decide +kernel
theorem dd_Mo_straight_4 : decode prog_7_method_52_code 4 = .ok (.iload_n 2, 1) := by decide +kernel
theorem dd_Mo_straight_5 : decode prog_7_method_52_code 5 = .ok (.iaload, 1) := by decide +kernel
theorem dd_Mo_straight_6 : decode prog_7_method_52_code 6 = .ok (.istore_n 3, 1) := by decide +kernel
theorem dd_Mo_straight_7 : decode prog_7_method_52_code 7 = .ok (.iload_n 3, 1) := by decide +kernel
theorem dd_Mo_straight_8 : decode prog_7_method_52_code 8 = .ok (.bipush 15, 2) := by decide +kernel
theorem dd_Mo_straight_10 : decode prog_7_method_52_code 10 = .ok (.if_icmp .ne (63), 3) := by decide +kernel
theorem dd_Mo_straight_13 : decode prog_7_method_52_code 13 = .ok (.aload_n 0, 1) := by decide +kernel
theorem dd_Mo_straight_14 : decode prog_7_method_52_code 14 = .ok (.iload_n 1, 1) := by decide +kernel
theorem dd_Mo_straight_15 : decode prog_7_method_52_code 15 = .ok (.aload_n 0, 1) := by decide +kernel
theorem dd_Mo_straight_16 : decode prog_7_method_52_code 16 = .ok (.getfield 22, 3) := by decide +kernel
theorem dd_Mo_straight_19 : decode prog_7_method_52_code 19 = .ok (.iload_n 2, 1) := by decide +kernel
theorem dd_Mo_straight_20 : decode prog_7_method_52_code 20 = .ok (.iaload, 1) := by decide +kernel
theorem dd_Mo_straight_21 : decode prog_7_method_52_code 21 = .ok (.invokevirtual 105, 3) := by decide +kernel
theorem dd_Mo_straight_24 : decode prog_7_method_52_code 24 = .ok (.istore 4, 2) := by decide +kernel
theorem dd_Mo_straight_26 : decode prog_7_method_52_code 26 = .ok (.iconst 0, 1) := by decide +kernel
theorem dd_Mo_straight_27 : decode prog_7_method_52_code 27 = .ok (.istore 5, 2) := by decide +kernel
theorem dd_Mo_straight_29 : decode prog_7_method_52_code 29 = .ok (.iload 5, 2) := by decide +kernel
theorem dd_Mo_straight_31 : decode prog_7_method_52_code 31 = .ok (.aload_n 0, 1) := by decide +kernel
theorem dd_Mo_straight_32 : decode prog_7_method_52_code 32 = .ok (.getfield 16, 3) := by decide +kernel
theorem dd_Mo_straight_35 : decode prog_7_method_52_code 35 = .ok (.bipush 6, 2) := by decide +kernel
theorem dd_Mo_straight_37 : decode prog_7_method_52_code 37 = .ok (.iload_n 1, 1) := by decide +kernel
theorem dd_Mo_straight_38 : decode prog_7_method_52_code 38 = .ok (.imul, 1) := by decide +kernel
theorem dd_Mo_straight_39 : decode prog_7_method_52_code 39 = .ok (.aload_n 0, 1) := by decide +kernel
theorem dd_Mo_straight_40 : decode prog_7_method_52_code 40 = .ok (.getfield 22, 3) := by decide +kernel
theorem dd_Mo_straight_43 : decode prog_7_method_52_code 43 = .ok (.iload_n 2, 1) := by decide +kernel
theorem dd_Mo_straight_44 : decode prog_7_method_52_code 44 = .ok (.iaload, 1) := by decide +kernel
theorem dd_Mo_straight_45 : decode prog_7_method_52_code 45 = .ok (.iadd, 1) := by decide +kernel
theorem dd_Mo_straight_46 : decode prog_7_method_52_code 46 = .ok (.iaload, 1) := by decide +kernel
theorem dd_Mo_straight_47 : decode prog_7_method_52_code 47 = .ok (.if_icmp .ge (23), 3) := by decide +kernel
theorem dd_Mo_straight_50 : decode prog_7_method_52_code 50 = .ok (.aload_n 0, 1) := by decide +kernel
theorem dd_Mo_straight_51 : decode prog_7_method_52_code 51 = .ok (.aload_n 0, 1) := by decide +kernel
theorem dd_Mo_straight_52 : decode prog_7_method_52_code 52 = .ok (.getfield 59, 3) := by decide +kernel
theorem dd_Mo_straight_55 : decode prog_7_method_52_code 55 = .ok (.iload 4, 2) := by decide +kernel
theorem dd_Mo_straight_57 : decode prog_7_method_52_code 57 = .ok (.iload 5, 2) := by decide +kernel
theorem dd_Mo_straight_59 : decode prog_7_method_52_code 59 = .ok (.iadd, 1) := by decide +kernel
theorem dd_Mo_straight_60 : decode prog_7_method_52_code 60 = .ok (.iaload, 1) := by decide +kernel
theorem dd_Mo_straight_61 : decode prog_7_method_52_code 61 = .ok (.invokevirtual 229, 3) := by decide +kernel
theorem dd_Mo_straight_64 : decode prog_7_method_52_code 64 = .ok (.iinc 5 1, 3) := by decide +kernel
theorem dd_Mo_straight_67 : decode prog_7_method_52_code 67 = .ok (.goto (-38), 3) := by decide +kernel
theorem dd_Mo_straight_70 : decode prog_7_method_52_code 70 = .ok (.goto (107), 3) := by decide +kernel
theorem dd_Mo_straight_73 : decode prog_7_method_52_code 73 = .ok (.iload_n 3, 1) := by decide +kernel
theorem dd_Mo_straight_74 : decode prog_7_method_52_code 74 = .ok (.ifCond .ne (23), 3) := by decide +kernel
theorem dd_Mo_straight_77 : decode prog_7_method_52_code 77 = .ok (.aload_n 0, 1) := by decide +kernel
theorem dd_Mo_straight_78 : decode prog_7_method_52_code 78 = .ok (.iload_n 1, 1) := by decide +kernel
theorem dd_Mo_straight_79 : decode prog_7_method_52_code 79 = .ok (.aload_n 0, 1) := by decide +kernel
theorem dd_Mo_straight_80 : decode prog_7_method_52_code 80 = .ok (.getfield 22, 3) := by decide +kernel
theorem dd_Mo_straight_83 : decode prog_7_method_52_code 83 = .ok (.iload_n 2, 1) := by decide +kernel
theorem dd_Mo_straight_84 : decode prog_7_method_52_code 84 = .ok (.iaload, 1) := by decide +kernel
theorem dd_Mo_straight_85 : decode prog_7_method_52_code 85 = .ok (.aload_n 0, 1) := by decide +kernel
theorem dd_Mo_straight_86 : decode prog_7_method_52_code 86 = .ok (.getfield 25, 3) := by decide +kernel
theorem dd_Mo_straight_89 : decode prog_7_method_52_code 89 = .ok (.iload_n 2, 1) := by decide +kernel
theorem dd_Mo_straight_90 : decode prog_7_method_52_code 90 = .ok (.iaload, 1) := by decide +kernel
theorem dd_Mo_straight_91 : decode prog_7_method_52_code 91 = .ok (.invokevirtual 209, 3) := by decide +kernel
theorem dd_Mo_straight_94 : decode prog_7_method_52_code 94 = .ok (.goto (83), 3) := by decide +kernel
theorem dd_Mo_straight_97 : decode prog_7_method_52_code 97 = .ok (.aload_n 0, 1) := by decide +kernel
theorem dd_Mo_straight_98 : decode prog_7_method_52_code 98 = .ok (.iload_n 1, 1) := by decide +kernel
theorem dd_Mo_straight_99 : decode prog_7_method_52_code 99 = .ok (.iload_n 3, 1) := by decide +kernel
theorem dd_Mo_straight_100 : decode prog_7_method_52_code 100 = .ok (.bipush 7, 2) := by decide +kernel
theorem dd_Mo_straight_102 : decode prog_7_method_52_code 102 = .ok (.if_icmp .ne (12), 3) := by decide +kernel
theorem dd_Mo_straight_105 : decode prog_7_method_52_code 105 = .ok (.aload_n 0, 1) := by decide +kernel
theorem dd_Mo_straight_106 : decode prog_7_method_52_code 106 = .ok (.getfield 22, 3) := by decide +kernel
theorem dd_Mo_straight_109 : decode prog_7_method_52_code 109 = .ok (.iload_n 2, 1) := by decide +kernel
theorem dd_Mo_straight_110 : decode prog_7_method_52_code 110 = .ok (.iaload, 1) := by decide +kernel
theorem dd_Mo_straight_111 : decode prog_7_method_52_code 111 = .ok (.goto (9), 3) := by decide +kernel
theorem dd_Mo_straight_114 : decode prog_7_method_52_code 114 = .ok (.aload_n 0, 1) := by decide +kernel
theorem dd_Mo_straight_115 : decode prog_7_method_52_code 115 = .ok (.getfield 25, 3) := by decide +kernel
theorem dd_Mo_straight_118 : decode prog_7_method_52_code 118 = .ok (.iload_n 2, 1) := by decide +kernel
theorem dd_Mo_straight_119 : decode prog_7_method_52_code 119 = .ok (.iaload, 1) := by decide +kernel
theorem dd_Mo_straight_120 : decode prog_7_method_52_code 120 = .ok (.invokevirtual 206, 3) := by decide +kernel
theorem dd_Mo_straight_123 : decode prog_7_method_52_code 123 = .ok (.istore 4, 2) := by decide +kernel
theorem dd_Mo_straight_125 : decode prog_7_method_52_code 125 = .ok (.iload_n 3, 1) := by decide +kernel
theorem dd_Mo_straight_126 : decode prog_7_method_52_code 126 = .ok (.iconst 2, 1) := by decide +kernel
theorem dd_Mo_straight_127 : decode prog_7_method_52_code 127 = .ok (.if_icmp .lt (23), 3) := by decide +kernel
theorem dd_Mo_straight_130 : decode prog_7_method_52_code 130 = .ok (.iload_n 3, 1) := by decide +kernel
theorem dd_Mo_straight_131 : decode prog_7_method_52_code 131 = .ok (.bipush 6, 2) := by decide +kernel
theorem dd_Mo_straight_133 : decode prog_7_method_52_code 133 = .ok (.if_icmp .gt (17), 3) := by decide +kernel
theorem dd_Mo_straight_136 : decode prog_7_method_52_code 136 = .ok (.aload_n 0, 1) := by decide +kernel
theorem dd_Mo_straight_137 : decode prog_7_method_52_code 137 = .ok (.iload_n 1, 1) := by decide +kernel
theorem dd_Mo_straight_138 : decode prog_7_method_52_code 138 = .ok (.aload_n 0, 1) := by decide +kernel
theorem dd_Mo_straight_139 : decode prog_7_method_52_code 139 = .ok (.getfield 28, 3) := by decide +kernel
theorem dd_Mo_straight_142 : decode prog_7_method_52_code 142 = .ok (.iload_n 2, 1) := by decide +kernel
theorem dd_Mo_straight_143 : decode prog_7_method_52_code 143 = .ok (.iaload, 1) := by decide +kernel
theorem dd_Mo_straight_144 : decode prog_7_method_52_code 144 = .ok (.invokevirtual 206, 3) := by decide +kernel
theorem dd_Mo_straight_147 : decode prog_7_method_52_code 147 = .ok (.goto (4), 3) := by decide +kernel
theorem dd_Mo_straight_150 : decode prog_7_method_52_code 150 = .ok (.iconst 0, 1) := by decide +kernel
theorem dd_Mo_straight_151 : decode prog_7_method_52_code 151 = .ok (.istore 5, 2) := by decide +kernel
theorem dd_Mo_straight_153 : decode prog_7_method_52_code 153 = .ok (.aload_n 0, 1) := by decide +kernel
theorem dd_Mo_straight_154 : decode prog_7_method_52_code 154 = .ok (.iload_n 3, 1) := by decide +kernel
theorem dd_Mo_straight_155 : decode prog_7_method_52_code 155 = .ok (.iload 4, 2) := by decide +kernel
theorem dd_Mo_straight_157 : decode prog_7_method_52_code 157 = .ok (.iload 5, 2) := by decide +kernel
theorem dd_Mo_straight_159 : decode prog_7_method_52_code 159 = .ok (.invokevirtual 232, 3) := by decide +kernel
theorem dd_Mo_straight_162 : decode prog_7_method_52_code 162 = .ok (.istore 6, 2) := by decide +kernel
theorem dd_Mo_straight_164 : decode prog_7_method_52_code 164 = .ok (.aload_n 0, 1) := by decide +kernel
theorem dd_Mo_straight_165 : decode prog_7_method_52_code 165 = .ok (.iload_n 1, 1) := by decide +kernel
theorem dd_Mo_straight_166 : decode prog_7_method_52_code 166 = .ok (.aload_n 0, 1) := by decide +kernel
theorem dd_Mo_straight_167 : decode prog_7_method_52_code 167 = .ok (.getfield 22, 3) := by decide +kernel
theorem dd_Mo_straight_170 : decode prog_7_method_52_code 170 = .ok (.iload_n 2, 1) := by decide +kernel
theorem dd_Mo_straight_171 : decode prog_7_method_52_code 171 = .ok (.iaload, 1) := by decide +kernel
theorem dd_Mo_straight_172 : decode prog_7_method_52_code 172 = .ok (.iload 6, 2) := by decide +kernel
theorem dd_Mo_straight_174 : decode prog_7_method_52_code 174 = .ok (.invokevirtual 209, 3) := by decide +kernel
theorem dd_Mo_straight_177 : decode prog_7_method_52_code 177 = .ok (.aload_n 0, 1) := by decide +kernel
theorem dd_Mo_straight_178 : decode prog_7_method_52_code 178 = .ok (.getfield 56, 3) := by decide +kernel
theorem dd_Mo_straight_181 : decode prog_7_method_52_code 181 = .ok (.aload_n 0, 1) := by decide +kernel
theorem dd_Mo_straight_182 : decode prog_7_method_52_code 182 = .ok (.getfield 203, 3) := by decide +kernel
theorem dd_Mo_straight_185 : decode prog_7_method_52_code 185 = .ok (.iconst 1, 1) := by decide +kernel
theorem dd_Mo_straight_186 : decode prog_7_method_52_code 186 = .ok (.isub, 1) := by decide +kernel
theorem dd_Mo_straight_187 : decode prog_7_method_52_code 187 = .ok (.iload_n 2, 1) := by decide +kernel
theorem dd_Mo_straight_188 : decode prog_7_method_52_code 188 = .ok (.iconst 1, 1) := by decide +kernel
theorem dd_Mo_straight_189 : decode prog_7_method_52_code 189 = .ok (.iadd, 1) := by decide +kernel
theorem dd_Mo_straight_190 : decode prog_7_method_52_code 190 = .ok (.iastore, 1) := by decide +kernel
theorem dd_Mo_straight_191 : decode prog_7_method_52_code 191 = .ok (.return_, 1) := by decide +kernel
theorem dd_Mo_run_0 : decode prog_7_method_53_code 0 = .ok (.aload_n 0, 1) := by decide +kernel
theorem dd_Mo_run_1 : decode prog_7_method_53_code 1 = .ok (.getfield 69, 3) := by decide +kernel
theorem dd_Mo_run_4 : decode prog_7_method_53_code 4 = .ok (.ifCond .eq (14), 3) := by decide +kernel
theorem dd_Mo_run_7 : decode prog_7_method_53_code 7 = .ok (.iload_n 1, 1) := by decide +kernel
theorem dd_Mo_run_8 : decode prog_7_method_53_code 8 = .ok (.ifCond .lt (10), 3) := by decide +kernel
theorem dd_Mo_run_11 : decode prog_7_method_53_code 11 = .ok (.iload_n 1, 1) := by decide +kernel
theorem dd_Mo_run_12 : decode prog_7_method_53_code 12 = .ok (.sipush 1000, 3) := by decide +kernel
theorem dd_Mo_run_15 : decode prog_7_method_53_code 15 = .ok (.if_icmp .le (5), 3) := by decide +kernel
theorem dd_Mo_run_18 : decode prog_7_method_53_code 18 = .ok (.iconst (-1), 1) := by decide +kernel
theorem dd_Mo_run_19 : decode prog_7_method_53_code 19 = .ok (.ireturn, 1) := by decide +kernel
theorem dd_Mo_run_20 : decode prog_7_method_53_code 20 = .ok (.iconst 0, 1) := by decide +kernel
theorem dd_Mo_run_21 : decode prog_7_method_53_code 21 = .ok (.istore_n 2, 1) := by decide +kernel
theorem dd_Mo_run_22 : decode prog_7_method_53_code 22 = .ok (.iload_n 2, 1) := by decide +kernel
theorem dd_Mo_run_23 : decode prog_7_method_53_code 23 = .ok (.iload_n 1, 1) := by decide +kernel
theorem dd_Mo_run_24 : decode prog_7_method_53_code 24 = .ok (.if_icmp .ge (20), 3) := by decide +kernel
theorem dd_Mo_run_27 : decode prog_7_method_53_code 27 = .ok (.aload_n 0, 1) := by decide +kernel
theorem dd_Mo_run_28 : decode prog_7_method_53_code 28 = .ok (.getfield 194, 3) := by decide +kernel
theorem dd_Mo_run_31 : decode prog_7_method_53_code 31 = .ok (.ifCond .ne (13), 3) := by decide +kernel
theorem dd_Mo_run_34 : decode prog_7_method_53_code 34 = .ok (.aload_n 0, 1) := by decide +kernel
theorem dd_Mo_run_35 : decode prog_7_method_53_code 35 = .ok (.invokevirtual 235, 3) := by decide +kernel
theorem dd_Mo_run_38 : decode prog_7_method_53_code 38 = .ok (.iinc 2 1, 3) := by decide +kernel
theorem dd_Mo_run_41 : decode prog_7_method_53_code 41 = .ok (.goto (-19), 3) := by decide +kernel
theorem dd_Mo_run_44 : decode prog_7_method_53_code 44 = .ok (.iload_n 2, 1) := by decide +kernel
theorem dd_Mo_run_45 : decode prog_7_method_53_code 45 = .ok (.ireturn, 1) := by decide +kernel
theorem dd_Mo_state_0 : decode prog_7_method_54_code 0 = .ok (.aload_n 0, 1) := by decide +kernel
theorem dd_Mo_state_1 : decode prog_7_method_54_code 1 = .ok (.getfield 69, 3) := by decide +kernel
theorem dd_Mo_state_4 : decode prog_7_method_54_code 4 = .ok (.ifCond .eq (10), 3) := by decide +kernel
theorem dd_Mo_state_7 : decode prog_7_method_54_code 7 = .ok (.aload_n 0, 1) := by decide +kernel
theorem dd_Mo_state_8 : decode prog_7_method_54_code 8 = .ok (.getfield 194, 3) := by decide +kernel
theorem dd_Mo_state_11 : decode prog_7_method_54_code 11 = .ok (.goto (4), 3) := by decide +kernel
theorem dd_Mo_state_14 : decode prog_7_method_54_code 14 = .ok (.iconst (-1), 1) := by decide +kernel
theorem dd_Mo_state_15 : decode prog_7_method_54_code 15 = .ok (.ireturn, 1) := by decide +kernel
theorem dd_Mo_spent_0 : decode prog_7_method_55_code 0 = .ok (.aload_n 0, 1) := by decide +kernel
theorem dd_Mo_spent_1 : decode prog_7_method_55_code 1 = .ok (.getfield 69, 3) := by decide +kernel
theorem dd_Mo_spent_4 : decode prog_7_method_55_code 4 = .ok (.ifCond .eq (10), 3) := by decide +kernel
theorem dd_Mo_spent_7 : decode prog_7_method_55_code 7 = .ok (.aload_n 0, 1) := by decide +kernel
theorem dd_Mo_spent_8 : decode prog_7_method_55_code 8 = .ok (.getfield 197, 3) := by decide +kernel
theorem dd_Mo_spent_11 : decode prog_7_method_55_code 11 = .ok (.goto (4), 3) := by decide +kernel
theorem dd_Mo_spent_14 : decode prog_7_method_55_code 14 = .ok (.iconst 0, 1) := by decide +kernel
theorem dd_Mo_spent_15 : decode prog_7_method_55_code 15 = .ok (.ireturn, 1) := by decide +kernel
theorem dd_Mo_next_0 : decode prog_7_method_56_code 0 = .ok (.aload_n 0, 1) := by decide +kernel
theorem dd_Mo_next_1 : decode prog_7_method_56_code 1 = .ok (.getfield 69, 3) := by decide +kernel
theorem dd_Mo_next_4 : decode prog_7_method_56_code 4 = .ok (.ifCond .eq (24), 3) := by decide +kernel
theorem dd_Mo_next_7 : decode prog_7_method_56_code 7 = .ok (.aload_n 0, 1) := by decide +kernel
theorem dd_Mo_next_8 : decode prog_7_method_56_code 8 = .ok (.getfield 194, 3) := by decide +kernel
theorem dd_Mo_next_11 : decode prog_7_method_56_code 11 = .ok (.ifCond .ne (17), 3) := by decide +kernel
theorem dd_Mo_next_14 : decode prog_7_method_56_code 14 = .ok (.aload_n 0, 1) := by decide +kernel
theorem dd_Mo_next_15 : decode prog_7_method_56_code 15 = .ok (.getfield 56, 3) := by decide +kernel
theorem dd_Mo_next_18 : decode prog_7_method_56_code 18 = .ok (.aload_n 0, 1) := by decide +kernel
theorem dd_Mo_next_19 : decode prog_7_method_56_code 19 = .ok (.getfield 203, 3) := by decide +kernel
theorem dd_Mo_next_22 : decode prog_7_method_56_code 22 = .ok (.iconst 1, 1) := by decide +kernel
theorem dd_Mo_next_23 : decode prog_7_method_56_code 23 = .ok (.isub, 1) := by decide +kernel
theorem dd_Mo_next_24 : decode prog_7_method_56_code 24 = .ok (.iaload, 1) := by decide +kernel
theorem dd_Mo_next_25 : decode prog_7_method_56_code 25 = .ok (.goto (4), 3) := by decide +kernel
theorem dd_Mo_next_28 : decode prog_7_method_56_code 28 = .ok (.iconst (-1), 1) := by decide +kernel
theorem dd_Mo_next_29 : decode prog_7_method_56_code 29 = .ok (.ireturn, 1) := by decide +kernel
theorem dd_Mo_depth_0 : decode prog_7_method_57_code 0 = .ok (.aload_n 0, 1) := by decide +kernel
theorem dd_Mo_depth_1 : decode prog_7_method_57_code 1 = .ok (.getfield 69, 3) := by decide +kernel
theorem dd_Mo_depth_4 : decode prog_7_method_57_code 4 = .ok (.ifCond .eq (17), 3) := by decide +kernel
theorem dd_Mo_depth_7 : decode prog_7_method_57_code 7 = .ok (.aload_n 0, 1) := by decide +kernel
theorem dd_Mo_depth_8 : decode prog_7_method_57_code 8 = .ok (.getfield 194, 3) := by decide +kernel
theorem dd_Mo_depth_11 : decode prog_7_method_57_code 11 = .ok (.ifCond .ne (10), 3) := by decide +kernel
theorem dd_Mo_depth_14 : decode prog_7_method_57_code 14 = .ok (.aload_n 0, 1) := by decide +kernel
theorem dd_Mo_depth_15 : decode prog_7_method_57_code 15 = .ok (.getfield 203, 3) := by decide +kernel
theorem dd_Mo_depth_18 : decode prog_7_method_57_code 18 = .ok (.goto (4), 3) := by decide +kernel
theorem dd_Mo_depth_21 : decode prog_7_method_57_code 21 = .ok (.iconst 0, 1) := by decide +kernel
theorem dd_Mo_depth_22 : decode prog_7_method_57_code 22 = .ok (.ireturn, 1) := by decide +kernel
theorem dd_Mo_value_0 : decode prog_7_method_58_code 0 = .ok (.aload_n 0, 1) := by decide +kernel
theorem dd_Mo_value_1 : decode prog_7_method_58_code 1 = .ok (.getfield 69, 3) := by decide +kernel
theorem dd_Mo_value_4 : decode prog_7_method_58_code 4 = .ok (.ifCond .eq (10), 3) := by decide +kernel
theorem dd_Mo_value_7 : decode prog_7_method_58_code 7 = .ok (.aload_n 0, 1) := by decide +kernel
theorem dd_Mo_value_8 : decode prog_7_method_58_code 8 = .ok (.getfield 194, 3) := by decide +kernel
theorem dd_Mo_value_11 : decode prog_7_method_58_code 11 = .ok (.ifCond .eq (5), 3) := by decide +kernel
theorem dd_Mo_value_14 : decode prog_7_method_58_code 14 = .ok (.iconst (-1), 1) := by decide +kernel
theorem dd_Mo_value_15 : decode prog_7_method_58_code 15 = .ok (.ireturn, 1) := by decide +kernel
theorem dd_Mo_value_16 : decode prog_7_method_58_code 16 = .ok (.aload_n 0, 1) := by decide +kernel
theorem dd_Mo_value_17 : decode prog_7_method_58_code 17 = .ok (.getfield 56, 3) := by decide +kernel
theorem dd_Mo_value_20 : decode prog_7_method_58_code 20 = .ok (.aload_n 0, 1) := by decide +kernel
theorem dd_Mo_value_21 : decode prog_7_method_58_code 21 = .ok (.getfield 203, 3) := by decide +kernel
theorem dd_Mo_value_24 : decode prog_7_method_58_code 24 = .ok (.iconst 1, 1) := by decide +kernel
theorem dd_Mo_value_25 : decode prog_7_method_58_code 25 = .ok (.isub, 1) := by decide +kernel
theorem dd_Mo_value_26 : decode prog_7_method_58_code 26 = .ok (.iaload, 1) := by decide +kernel
theorem dd_Mo_value_27 : decode prog_7_method_58_code 27 = .ok (.bipush 24, 2) := by decide +kernel
theorem dd_Mo_value_29 : decode prog_7_method_58_code 29 = .ok (.idiv, 1) := by decide +kernel
theorem dd_Mo_value_30 : decode prog_7_method_58_code 30 = .ok (.istore_n 3, 1) := by decide +kernel
theorem dd_Mo_value_31 : decode prog_7_method_58_code 31 = .ok (.iload_n 1, 1) := by decide +kernel
theorem dd_Mo_value_32 : decode prog_7_method_58_code 32 = .ok (.ifCond .lt (48), 3) := by decide +kernel
theorem dd_Mo_value_35 : decode prog_7_method_58_code 35 = .ok (.iload_n 1, 1) := by decide +kernel
theorem dd_Mo_value_36 : decode prog_7_method_58_code 36 = .ok (.aload_n 0, 1) := by decide +kernel
theorem dd_Mo_value_37 : decode prog_7_method_58_code 37 = .ok (.getfield 7, 3) := by decide +kernel
theorem dd_Mo_value_40 : decode prog_7_method_58_code 40 = .ok (.iload_n 3, 1) := by decide +kernel
theorem dd_Mo_value_41 : decode prog_7_method_58_code 41 = .ok (.iaload, 1) := by decide +kernel
theorem dd_Mo_value_42 : decode prog_7_method_58_code 42 = .ok (.if_icmp .ge (38), 3) := by decide +kernel
theorem dd_Mo_value_45 : decode prog_7_method_58_code 45 = .ok (.iload_n 2, 1) := by decide +kernel
theorem dd_Mo_value_46 : decode prog_7_method_58_code 46 = .ok (.ifCond .lt (34), 3) := by decide +kernel
theorem dd_Mo_value_49 : decode prog_7_method_58_code 49 = .ok (.iload_n 2, 1) := by decide +kernel
theorem dd_Mo_value_50 : decode prog_7_method_58_code 50 = .ok (.aload_n 0, 1) := by decide +kernel
theorem dd_Mo_value_51 : decode prog_7_method_58_code 51 = .ok (.getfield 16, 3) := by decide +kernel
theorem dd_Mo_value_54 : decode prog_7_method_58_code 54 = .ok (.bipush 6, 2) := by decide +kernel
theorem dd_Mo_value_56 : decode prog_7_method_58_code 56 = .ok (.iload_n 3, 1) := by decide +kernel
theorem dd_Mo_value_57 : decode prog_7_method_58_code 57 = .ok (.imul, 1) := by decide +kernel
theorem dd_Mo_value_58 : decode prog_7_method_58_code 58 = .ok (.iload_n 1, 1) := by decide +kernel
theorem dd_Mo_value_59 : decode prog_7_method_58_code 59 = .ok (.iadd, 1) := by decide +kernel
theorem dd_Mo_value_60 : decode prog_7_method_58_code 60 = .ok (.iaload, 1) := by decide +kernel
theorem dd_Mo_value_61 : decode prog_7_method_58_code 61 = .ok (.if_icmp .ge (19), 3) := by decide +kernel
theorem dd_Mo_value_64 : decode prog_7_method_58_code 64 = .ok (.aload_n 0, 1) := by decide +kernel
theorem dd_Mo_value_65 : decode prog_7_method_58_code 65 = .ok (.getfield 59, 3) := by decide +kernel
theorem dd_Mo_value_68 : decode prog_7_method_58_code 68 = .ok (.aload_n 0, 1) := by decide +kernel
theorem dd_Mo_value_69 : decode prog_7_method_58_code 69 = .ok (.iload_n 3, 1) := by decide +kernel
theorem dd_Mo_value_70 : decode prog_7_method_58_code 70 = .ok (.iload_n 1, 1) := by decide +kernel
theorem dd_Mo_value_71 : decode prog_7_method_58_code 71 = .ok (.invokevirtual 105, 3) := by decide +kernel
theorem dd_Mo_value_74 : decode prog_7_method_58_code 74 = .ok (.iload_n 2, 1) := by decide +kernel
theorem dd_Mo_value_75 : decode prog_7_method_58_code 75 = .ok (.iadd, 1) := by decide +kernel
theorem dd_Mo_value_76 : decode prog_7_method_58_code 76 = .ok (.iaload, 1) := by decide +kernel
theorem dd_Mo_value_77 : decode prog_7_method_58_code 77 = .ok (.goto (4), 3) := by decide +kernel
theorem dd_Mo_value_80 : decode prog_7_method_58_code 80 = .ok (.iconst (-1), 1) := by decide +kernel
theorem dd_Mo_value_81 : decode prog_7_method_58_code 81 = .ok (.ireturn, 1) := by decide +kernel
theorem dd_Mo_output_0 : decode prog_7_method_59_code 0 = .ok (.iload_n 1, 1) := by decide +kernel
theorem dd_Mo_output_1 : decode prog_7_method_59_code 1 = .ok (.iconst (-1), 1) := by decide +kernel
theorem dd_Mo_output_2 : decode prog_7_method_59_code 2 = .ok (.if_icmp .ne (19), 3) := by decide +kernel
theorem dd_Mo_output_5 : decode prog_7_method_59_code 5 = .ok (.aload_n 0, 1) := by decide +kernel
theorem dd_Mo_output_6 : decode prog_7_method_59_code 6 = .ok (.getfield 69, 3) := by decide +kernel
theorem dd_Mo_output_9 : decode prog_7_method_59_code 9 = .ok (.ifCond .eq (10), 3) := by decide +kernel
theorem dd_Mo_output_12 : decode prog_7_method_59_code 12 = .ok (.aload_n 0, 1) := by decide +kernel
theorem dd_Mo_output_13 : decode prog_7_method_59_code 13 = .ok (.getfield 200, 3) := by decide +kernel
theorem dd_Mo_output_16 : decode prog_7_method_59_code 16 = .ok (.goto (4), 3) := by decide +kernel
theorem dd_Mo_output_19 : decode prog_7_method_59_code 19 = .ok (.iconst 0, 1) := by decide +kernel
theorem dd_Mo_output_20 : decode prog_7_method_59_code 20 = .ok (.ireturn, 1) := by decide +kernel
theorem dd_Mo_output_21 : decode prog_7_method_59_code 21 = .ok (.aload_n 0, 1) := by decide +kernel
theorem dd_Mo_output_22 : decode prog_7_method_59_code 22 = .ok (.getfield 69, 3) := by decide +kernel
theorem dd_Mo_output_25 : decode prog_7_method_59_code 25 = .ok (.ifCond .eq (30), 3) := by decide +kernel
theorem dd_Mo_output_28 : decode prog_7_method_59_code 28 = .ok (.iload_n 1, 1) := by decide +kernel
theorem dd_Mo_output_29 : decode prog_7_method_59_code 29 = .ok (.ifCond .lt (26), 3) := by decide +kernel
theorem dd_Mo_output_32 : decode prog_7_method_59_code 32 = .ok (.iload_n 1, 1) := by decide +kernel
theorem dd_Mo_output_33 : decode prog_7_method_59_code 33 = .ok (.aload_n 0, 1) := by decide +kernel
theorem dd_Mo_output_34 : decode prog_7_method_59_code 34 = .ok (.getfield 200, 3) := by decide +kernel
theorem dd_Mo_output_37 : decode prog_7_method_59_code 37 = .ok (.if_icmp .ge (18), 3) := by decide +kernel
theorem dd_Mo_output_40 : decode prog_7_method_59_code 40 = .ok (.iload_n 1, 1) := by decide +kernel
theorem dd_Mo_output_41 : decode prog_7_method_59_code 41 = .ok (.bipush 100, 2) := by decide +kernel
theorem dd_Mo_output_43 : decode prog_7_method_59_code 43 = .ok (.if_icmp .ge (12), 3) := by decide +kernel
theorem dd_Mo_output_46 : decode prog_7_method_59_code 46 = .ok (.aload_n 0, 1) := by decide +kernel
theorem dd_Mo_output_47 : decode prog_7_method_59_code 47 = .ok (.getfield 62, 3) := by decide +kernel
theorem dd_Mo_output_50 : decode prog_7_method_59_code 50 = .ok (.iload_n 1, 1) := by decide +kernel
theorem dd_Mo_output_51 : decode prog_7_method_59_code 51 = .ok (.iaload, 1) := by decide +kernel
theorem dd_Mo_output_52 : decode prog_7_method_59_code 52 = .ok (.goto (4), 3) := by decide +kernel
theorem dd_Mo_output_55 : decode prog_7_method_59_code 55 = .ok (.iconst (-1), 1) := by decide +kernel
theorem dd_Mo_output_56 : decode prog_7_method_59_code 56 = .ok (.ireturn, 1) := by decide +kernel
