/-! decode rows of ExactForms$Matrix -/
theorem kM_init_d0 : decode prog_7_method_1_code 0 = .ok (.aload_n 0, 1) := by decide +kernel
theorem kM_init_d1 : decode prog_7_method_1_code 1 = .ok (.invokespecial 3, 3) := by decide +kernel
theorem kM_init_d4 : decode prog_7_method_1_code 4 = .ok (.aload_n 0, 1) := by decide +kernel
theorem kM_init_d5 : decode prog_7_method_1_code 5 = .ok (.iconst 1, 1) := by decide +kernel
theorem kM_init_d6 : decode prog_7_method_1_code 6 = .ok (.putfield 9, 3) := by decide +kernel
theorem kM_init_d9 : decode prog_7_method_1_code 9 = .ok (.aload_n 0, 1) := by decide +kernel
theorem kM_init_d10 : decode prog_7_method_1_code 10 = .ok (.iconst 1, 1) := by decide +kernel
theorem kM_init_d11 : decode prog_7_method_1_code 11 = .ok (.putfield 15, 3) := by decide +kernel
theorem kM_init_d14 : decode prog_7_method_1_code 14 = .ok (.aload_n 0, 1) := by decide +kernel
theorem kM_init_d15 : decode prog_7_method_1_code 15 = .ok (.sipush 256, 3) := by decide +kernel
theorem kM_init_d18 : decode prog_7_method_1_code 18 = .ok (.anewarray 18, 3) := by decide +kernel
theorem kM_init_d21 : decode prog_7_method_1_code 21 = .ok (.putfield 20, 3) := by decide +kernel
theorem kM_init_d24 : decode prog_7_method_1_code 24 = .ok (.iconst 0, 1) := by decide +kernel
theorem kM_init_d25 : decode prog_7_method_1_code 25 = .ok (.istore_n 2, 1) := by decide +kernel
theorem kM_init_d26 : decode prog_7_method_1_code 26 = .ok (.iload_n 2, 1) := by decide +kernel
theorem kM_init_d27 : decode prog_7_method_1_code 27 = .ok (.sipush 256, 3) := by decide +kernel
theorem kM_init_d30 : decode prog_7_method_1_code 30 = .ok (.if_icmp .ge 23, 3) := by decide +kernel
theorem kM_init_d33 : decode prog_7_method_1_code 33 = .ok (.aload_n 0, 1) := by decide +kernel
theorem kM_init_d34 : decode prog_7_method_1_code 34 = .ok (.getfield 20, 3) := by decide +kernel
theorem kM_init_d37 : decode prog_7_method_1_code 37 = .ok (.iload_n 2, 1) := by decide +kernel
theorem kM_init_d38 : decode prog_7_method_1_code 38 = .ok (.new 18, 3) := by decide +kernel
theorem kM_init_d41 : decode prog_7_method_1_code 41 = .ok (.dup, 1) := by decide +kernel
theorem kM_init_d42 : decode prog_7_method_1_code 42 = .ok (.iload_n 1, 1) := by decide +kernel
theorem kM_init_d43 : decode prog_7_method_1_code 43 = .ok (.invokespecial 24, 3) := by decide +kernel
theorem kM_init_d46 : decode prog_7_method_1_code 46 = .ok (.aastore, 1) := by decide +kernel
theorem kM_init_d47 : decode prog_7_method_1_code 47 = .ok (.iinc 2 1, 3) := by decide +kernel
theorem kM_init_d50 : decode prog_7_method_1_code 50 = .ok (.goto (-24), 3) := by decide +kernel
theorem kM_init_d53 : decode prog_7_method_1_code 53 = .ok (.aload_n 0, 1) := by decide +kernel
theorem kM_init_d54 : decode prog_7_method_1_code 54 = .ok (.new 18, 3) := by decide +kernel
theorem kM_init_d57 : decode prog_7_method_1_code 57 = .ok (.dup, 1) := by decide +kernel
theorem kM_init_d58 : decode prog_7_method_1_code 58 = .ok (.iload_n 1, 1) := by decide +kernel
theorem kM_init_d59 : decode prog_7_method_1_code 59 = .ok (.invokespecial 24, 3) := by decide +kernel
theorem kM_init_d62 : decode prog_7_method_1_code 62 = .ok (.putfield 27, 3) := by decide +kernel
theorem kM_init_d65 : decode prog_7_method_1_code 65 = .ok (.aload_n 0, 1) := by decide +kernel
theorem kM_init_d66 : decode prog_7_method_1_code 66 = .ok (.getfield 27, 3) := by decide +kernel
theorem kM_init_d69 : decode prog_7_method_1_code 69 = .ok (.getfield 31, 3) := by decide +kernel
theorem kM_init_d72 : decode prog_7_method_1_code 72 = .ok (.iconst 0, 1) := by decide +kernel
theorem kM_init_d73 : decode prog_7_method_1_code 73 = .ok (.iconst 1, 1) := by decide +kernel
theorem kM_init_d74 : decode prog_7_method_1_code 74 = .ok (.iastore, 1) := by decide +kernel
theorem kM_init_d75 : decode prog_7_method_1_code 75 = .ok (.aload_n 0, 1) := by decide +kernel
theorem kM_init_d76 : decode prog_7_method_1_code 76 = .ok (.getfield 27, 3) := by decide +kernel
theorem kM_init_d79 : decode prog_7_method_1_code 79 = .ok (.iconst 1, 1) := by decide +kernel
theorem kM_init_d80 : decode prog_7_method_1_code 80 = .ok (.putfield 35, 3) := by decide +kernel
theorem kM_init_d83 : decode prog_7_method_1_code 83 = .ok (.return_, 1) := by decide +kernel
theorem kM_clear_d0 : decode prog_7_method_3_code 0 = .ok (.aload_n 0, 1) := by decide +kernel
theorem kM_clear_d1 : decode prog_7_method_3_code 1 = .ok (.iload_n 1, 1) := by decide +kernel
theorem kM_clear_d2 : decode prog_7_method_3_code 2 = .ok (.putfield 9, 3) := by decide +kernel
theorem kM_clear_d5 : decode prog_7_method_3_code 5 = .ok (.aload_n 0, 1) := by decide +kernel
theorem kM_clear_d6 : decode prog_7_method_3_code 6 = .ok (.iload_n 2, 1) := by decide +kernel
theorem kM_clear_d7 : decode prog_7_method_3_code 7 = .ok (.putfield 15, 3) := by decide +kernel
theorem kM_clear_d10 : decode prog_7_method_3_code 10 = .ok (.aload_n 0, 1) := by decide +kernel
theorem kM_clear_d11 : decode prog_7_method_3_code 11 = .ok (.getfield 27, 3) := by decide +kernel
theorem kM_clear_d14 : decode prog_7_method_3_code 14 = .ok (.invokevirtual 38, 3) := by decide +kernel
theorem kM_clear_d17 : decode prog_7_method_3_code 17 = .ok (.iconst 0, 1) := by decide +kernel
theorem kM_clear_d18 : decode prog_7_method_3_code 18 = .ok (.istore_n 3, 1) := by decide +kernel
theorem kM_clear_d19 : decode prog_7_method_3_code 19 = .ok (.iload_n 3, 1) := by decide +kernel
theorem kM_clear_d20 : decode prog_7_method_3_code 20 = .ok (.aload_n 0, 1) := by decide +kernel
theorem kM_clear_d21 : decode prog_7_method_3_code 21 = .ok (.getfield 9, 3) := by decide +kernel
theorem kM_clear_d24 : decode prog_7_method_3_code 24 = .ok (.if_icmp .ge 37, 3) := by decide +kernel
theorem kM_clear_d27 : decode prog_7_method_3_code 27 = .ok (.iconst 0, 1) := by decide +kernel
theorem kM_clear_d28 : decode prog_7_method_3_code 28 = .ok (.istore 4, 2) := by decide +kernel
theorem kM_clear_d30 : decode prog_7_method_3_code 30 = .ok (.iload 4, 2) := by decide +kernel
theorem kM_clear_d32 : decode prog_7_method_3_code 32 = .ok (.aload_n 0, 1) := by decide +kernel
theorem kM_clear_d33 : decode prog_7_method_3_code 33 = .ok (.getfield 15, 3) := by decide +kernel
theorem kM_clear_d36 : decode prog_7_method_3_code 36 = .ok (.if_icmp .ge 19, 3) := by decide +kernel
theorem kM_clear_d39 : decode prog_7_method_3_code 39 = .ok (.aload_n 0, 1) := by decide +kernel
theorem kM_clear_d40 : decode prog_7_method_3_code 40 = .ok (.iload_n 3, 1) := by decide +kernel
theorem kM_clear_d41 : decode prog_7_method_3_code 41 = .ok (.iload 4, 2) := by decide +kernel
theorem kM_clear_d43 : decode prog_7_method_3_code 43 = .ok (.invokevirtual 41, 3) := by decide +kernel
theorem kM_clear_d46 : decode prog_7_method_3_code 46 = .ok (.invokevirtual 45, 3) := by decide +kernel
theorem kM_clear_d49 : decode prog_7_method_3_code 49 = .ok (.iinc 4 1, 3) := by decide +kernel
theorem kM_clear_d52 : decode prog_7_method_3_code 52 = .ok (.goto (-22), 3) := by decide +kernel
theorem kM_clear_d55 : decode prog_7_method_3_code 55 = .ok (.iinc 3 1, 3) := by decide +kernel
theorem kM_clear_d58 : decode prog_7_method_3_code 58 = .ok (.goto (-39), 3) := by decide +kernel
theorem kM_clear_d61 : decode prog_7_method_3_code 61 = .ok (.return_, 1) := by decide +kernel
theorem kM_at_d0 : decode prog_7_method_2_code 0 = .ok (.aload_n 0, 1) := by decide +kernel
theorem kM_at_d1 : decode prog_7_method_2_code 1 = .ok (.getfield 20, 3) := by decide +kernel
theorem kM_at_d4 : decode prog_7_method_2_code 4 = .ok (.iload_n 1, 1) := by decide +kernel
theorem kM_at_d5 : decode prog_7_method_2_code 5 = .ok (.bipush 16, 2) := by decide +kernel
theorem kM_at_d7 : decode prog_7_method_2_code 7 = .ok (.imul, 1) := by decide +kernel
theorem kM_at_d8 : decode prog_7_method_2_code 8 = .ok (.iload_n 2, 1) := by decide +kernel
theorem kM_at_d9 : decode prog_7_method_2_code 9 = .ok (.iadd, 1) := by decide +kernel
theorem kM_at_d10 : decode prog_7_method_2_code 10 = .ok (.aaload, 1) := by decide +kernel
theorem kM_at_d11 : decode prog_7_method_2_code 11 = .ok (.areturn, 1) := by decide +kernel
theorem kM_copy_d0 : decode prog_7_method_5_code 0 = .ok (.aload_n 0, 1) := by decide +kernel
theorem kM_copy_d1 : decode prog_7_method_5_code 1 = .ok (.aload_n 1, 1) := by decide +kernel
theorem kM_copy_d2 : decode prog_7_method_5_code 2 = .ok (.getfield 9, 3) := by decide +kernel
theorem kM_copy_d5 : decode prog_7_method_5_code 5 = .ok (.putfield 9, 3) := by decide +kernel
theorem kM_copy_d8 : decode prog_7_method_5_code 8 = .ok (.aload_n 0, 1) := by decide +kernel
theorem kM_copy_d9 : decode prog_7_method_5_code 9 = .ok (.aload_n 1, 1) := by decide +kernel
theorem kM_copy_d10 : decode prog_7_method_5_code 10 = .ok (.getfield 15, 3) := by decide +kernel
theorem kM_copy_d13 : decode prog_7_method_5_code 13 = .ok (.putfield 15, 3) := by decide +kernel
theorem kM_copy_d16 : decode prog_7_method_5_code 16 = .ok (.aload_n 0, 1) := by decide +kernel
theorem kM_copy_d17 : decode prog_7_method_5_code 17 = .ok (.getfield 27, 3) := by decide +kernel
theorem kM_copy_d20 : decode prog_7_method_5_code 20 = .ok (.aload_n 1, 1) := by decide +kernel
theorem kM_copy_d21 : decode prog_7_method_5_code 21 = .ok (.getfield 27, 3) := by decide +kernel
theorem kM_copy_d24 : decode prog_7_method_5_code 24 = .ok (.invokevirtual 52, 3) := by decide +kernel
theorem kM_copy_d27 : decode prog_7_method_5_code 27 = .ok (.iconst 0, 1) := by decide +kernel
theorem kM_copy_d28 : decode prog_7_method_5_code 28 = .ok (.istore_n 2, 1) := by decide +kernel
theorem kM_copy_d29 : decode prog_7_method_5_code 29 = .ok (.iload_n 2, 1) := by decide +kernel
theorem kM_copy_d30 : decode prog_7_method_5_code 30 = .ok (.aload_n 0, 1) := by decide +kernel
theorem kM_copy_d31 : decode prog_7_method_5_code 31 = .ok (.getfield 9, 3) := by decide +kernel
theorem kM_copy_d34 : decode prog_7_method_5_code 34 = .ok (.if_icmp .ge 40, 3) := by decide +kernel
theorem kM_copy_d37 : decode prog_7_method_5_code 37 = .ok (.iconst 0, 1) := by decide +kernel
theorem kM_copy_d38 : decode prog_7_method_5_code 38 = .ok (.istore_n 3, 1) := by decide +kernel
theorem kM_copy_d39 : decode prog_7_method_5_code 39 = .ok (.iload_n 3, 1) := by decide +kernel
theorem kM_copy_d40 : decode prog_7_method_5_code 40 = .ok (.aload_n 0, 1) := by decide +kernel
theorem kM_copy_d41 : decode prog_7_method_5_code 41 = .ok (.getfield 15, 3) := by decide +kernel
theorem kM_copy_d44 : decode prog_7_method_5_code 44 = .ok (.if_icmp .ge 24, 3) := by decide +kernel
theorem kM_copy_d47 : decode prog_7_method_5_code 47 = .ok (.aload_n 0, 1) := by decide +kernel
theorem kM_copy_d48 : decode prog_7_method_5_code 48 = .ok (.iload_n 2, 1) := by decide +kernel
theorem kM_copy_d49 : decode prog_7_method_5_code 49 = .ok (.iload_n 3, 1) := by decide +kernel
theorem kM_copy_d50 : decode prog_7_method_5_code 50 = .ok (.invokevirtual 41, 3) := by decide +kernel
theorem kM_copy_d53 : decode prog_7_method_5_code 53 = .ok (.aload_n 1, 1) := by decide +kernel
theorem kM_copy_d54 : decode prog_7_method_5_code 54 = .ok (.iload_n 2, 1) := by decide +kernel
theorem kM_copy_d55 : decode prog_7_method_5_code 55 = .ok (.iload_n 3, 1) := by decide +kernel
theorem kM_copy_d56 : decode prog_7_method_5_code 56 = .ok (.invokevirtual 41, 3) := by decide +kernel
theorem kM_copy_d59 : decode prog_7_method_5_code 59 = .ok (.invokevirtual 52, 3) := by decide +kernel
theorem kM_copy_d62 : decode prog_7_method_5_code 62 = .ok (.iinc 3 1, 3) := by decide +kernel
theorem kM_copy_d65 : decode prog_7_method_5_code 65 = .ok (.goto (-26), 3) := by decide +kernel
theorem kM_copy_d68 : decode prog_7_method_5_code 68 = .ok (.iinc 2 1, 3) := by decide +kernel
theorem kM_copy_d71 : decode prog_7_method_5_code 71 = .ok (.goto (-42), 3) := by decide +kernel
theorem kM_copy_d74 : decode prog_7_method_5_code 74 = .ok (.return_, 1) := by decide +kernel
theorem kM_negate_d0 : decode prog_7_method_6_code 0 = .ok (.aload_n 0, 1) := by decide +kernel
theorem kM_negate_d1 : decode prog_7_method_6_code 1 = .ok (.getfield 27, 3) := by decide +kernel
theorem kM_negate_d4 : decode prog_7_method_6_code 4 = .ok (.invokevirtual 56, 3) := by decide +kernel
theorem kM_negate_d7 : decode prog_7_method_6_code 7 = .ok (.iconst 0, 1) := by decide +kernel
theorem kM_negate_d8 : decode prog_7_method_6_code 8 = .ok (.istore_n 1, 1) := by decide +kernel
theorem kM_negate_d9 : decode prog_7_method_6_code 9 = .ok (.iload_n 1, 1) := by decide +kernel
theorem kM_negate_d10 : decode prog_7_method_6_code 10 = .ok (.aload_n 0, 1) := by decide +kernel
theorem kM_negate_d11 : decode prog_7_method_6_code 11 = .ok (.getfield 9, 3) := by decide +kernel
theorem kM_negate_d14 : decode prog_7_method_6_code 14 = .ok (.if_icmp .ge 34, 3) := by decide +kernel
theorem kM_negate_d17 : decode prog_7_method_6_code 17 = .ok (.iconst 0, 1) := by decide +kernel
theorem kM_negate_d18 : decode prog_7_method_6_code 18 = .ok (.istore_n 2, 1) := by decide +kernel
theorem kM_negate_d19 : decode prog_7_method_6_code 19 = .ok (.iload_n 2, 1) := by decide +kernel
theorem kM_negate_d20 : decode prog_7_method_6_code 20 = .ok (.aload_n 0, 1) := by decide +kernel
theorem kM_negate_d21 : decode prog_7_method_6_code 21 = .ok (.getfield 15, 3) := by decide +kernel
theorem kM_negate_d24 : decode prog_7_method_6_code 24 = .ok (.if_icmp .ge 18, 3) := by decide +kernel
theorem kM_negate_d27 : decode prog_7_method_6_code 27 = .ok (.aload_n 0, 1) := by decide +kernel
theorem kM_negate_d28 : decode prog_7_method_6_code 28 = .ok (.iload_n 1, 1) := by decide +kernel
theorem kM_negate_d29 : decode prog_7_method_6_code 29 = .ok (.iload_n 2, 1) := by decide +kernel
theorem kM_negate_d30 : decode prog_7_method_6_code 30 = .ok (.invokevirtual 41, 3) := by decide +kernel
theorem kM_negate_d33 : decode prog_7_method_6_code 33 = .ok (.invokevirtual 56, 3) := by decide +kernel
theorem kM_negate_d36 : decode prog_7_method_6_code 36 = .ok (.iinc 2 1, 3) := by decide +kernel
theorem kM_negate_d39 : decode prog_7_method_6_code 39 = .ok (.goto (-20), 3) := by decide +kernel
theorem kM_negate_d42 : decode prog_7_method_6_code 42 = .ok (.iinc 1 1, 3) := by decide +kernel
theorem kM_negate_d45 : decode prog_7_method_6_code 45 = .ok (.goto (-36), 3) := by decide +kernel
theorem kM_negate_d48 : decode prog_7_method_6_code 48 = .ok (.return_, 1) := by decide +kernel
theorem kM_divide_d0 : decode prog_7_method_8_code 0 = .ok (.aload_n 1, 1) := by decide +kernel
theorem kM_divide_d1 : decode prog_7_method_8_code 1 = .ok (.getfield 75, 3) := by decide +kernel
theorem kM_divide_d4 : decode prog_7_method_8_code 4 = .ok (.aload_n 0, 1) := by decide +kernel
theorem kM_divide_d5 : decode prog_7_method_8_code 5 = .ok (.getfield 27, 3) := by decide +kernel
theorem kM_divide_d8 : decode prog_7_method_8_code 8 = .ok (.aload_n 1, 1) := by decide +kernel
theorem kM_divide_d9 : decode prog_7_method_8_code 9 = .ok (.getfield 79, 3) := by decide +kernel
theorem kM_divide_d12 : decode prog_7_method_8_code 12 = .ok (.invokevirtual 82, 3) := by decide +kernel
theorem kM_divide_d15 : decode prog_7_method_8_code 15 = .ok (.aload_n 0, 1) := by decide +kernel
theorem kM_divide_d16 : decode prog_7_method_8_code 16 = .ok (.getfield 27, 3) := by decide +kernel
theorem kM_divide_d19 : decode prog_7_method_8_code 19 = .ok (.aload_n 1, 1) := by decide +kernel
theorem kM_divide_d20 : decode prog_7_method_8_code 20 = .ok (.getfield 75, 3) := by decide +kernel
theorem kM_divide_d23 : decode prog_7_method_8_code 23 = .ok (.getfield 87, 3) := by decide +kernel
theorem kM_divide_d26 : decode prog_7_method_8_code 26 = .ok (.invokevirtual 52, 3) := by decide +kernel
theorem kM_divide_d29 : decode prog_7_method_8_code 29 = .ok (.iconst 0, 1) := by decide +kernel
theorem kM_divide_d30 : decode prog_7_method_8_code 30 = .ok (.istore_n 2, 1) := by decide +kernel
theorem kM_divide_d31 : decode prog_7_method_8_code 31 = .ok (.iload_n 2, 1) := by decide +kernel
theorem kM_divide_d32 : decode prog_7_method_8_code 32 = .ok (.aload_n 0, 1) := by decide +kernel
theorem kM_divide_d33 : decode prog_7_method_8_code 33 = .ok (.getfield 9, 3) := by decide +kernel
theorem kM_divide_d36 : decode prog_7_method_8_code 36 = .ok (.if_icmp .ge 58, 3) := by decide +kernel
theorem kM_divide_d39 : decode prog_7_method_8_code 39 = .ok (.iconst 0, 1) := by decide +kernel
theorem kM_divide_d40 : decode prog_7_method_8_code 40 = .ok (.istore_n 3, 1) := by decide +kernel
theorem kM_divide_d41 : decode prog_7_method_8_code 41 = .ok (.iload_n 3, 1) := by decide +kernel
theorem kM_divide_d42 : decode prog_7_method_8_code 42 = .ok (.aload_n 0, 1) := by decide +kernel
theorem kM_divide_d43 : decode prog_7_method_8_code 43 = .ok (.getfield 15, 3) := by decide +kernel
theorem kM_divide_d46 : decode prog_7_method_8_code 46 = .ok (.if_icmp .ge 42, 3) := by decide +kernel
theorem kM_divide_d49 : decode prog_7_method_8_code 49 = .ok (.aload_n 1, 1) := by decide +kernel
theorem kM_divide_d50 : decode prog_7_method_8_code 50 = .ok (.getfield 75, 3) := by decide +kernel
theorem kM_divide_d53 : decode prog_7_method_8_code 53 = .ok (.aload_n 0, 1) := by decide +kernel
theorem kM_divide_d54 : decode prog_7_method_8_code 54 = .ok (.iload_n 2, 1) := by decide +kernel
theorem kM_divide_d55 : decode prog_7_method_8_code 55 = .ok (.iload_n 3, 1) := by decide +kernel
theorem kM_divide_d56 : decode prog_7_method_8_code 56 = .ok (.invokevirtual 41, 3) := by decide +kernel
theorem kM_divide_d59 : decode prog_7_method_8_code 59 = .ok (.aload_n 1, 1) := by decide +kernel
theorem kM_divide_d60 : decode prog_7_method_8_code 60 = .ok (.getfield 79, 3) := by decide +kernel
theorem kM_divide_d63 : decode prog_7_method_8_code 63 = .ok (.invokevirtual 82, 3) := by decide +kernel
theorem kM_divide_d66 : decode prog_7_method_8_code 66 = .ok (.aload_n 0, 1) := by decide +kernel
theorem kM_divide_d67 : decode prog_7_method_8_code 67 = .ok (.iload_n 2, 1) := by decide +kernel
theorem kM_divide_d68 : decode prog_7_method_8_code 68 = .ok (.iload_n 3, 1) := by decide +kernel
theorem kM_divide_d69 : decode prog_7_method_8_code 69 = .ok (.invokevirtual 41, 3) := by decide +kernel
theorem kM_divide_d72 : decode prog_7_method_8_code 72 = .ok (.aload_n 1, 1) := by decide +kernel
theorem kM_divide_d73 : decode prog_7_method_8_code 73 = .ok (.getfield 75, 3) := by decide +kernel
theorem kM_divide_d76 : decode prog_7_method_8_code 76 = .ok (.getfield 87, 3) := by decide +kernel
theorem kM_divide_d79 : decode prog_7_method_8_code 79 = .ok (.invokevirtual 52, 3) := by decide +kernel
theorem kM_divide_d82 : decode prog_7_method_8_code 82 = .ok (.iinc 3 1, 3) := by decide +kernel
theorem kM_divide_d85 : decode prog_7_method_8_code 85 = .ok (.goto (-44), 3) := by decide +kernel
theorem kM_divide_d88 : decode prog_7_method_8_code 88 = .ok (.iinc 2 1, 3) := by decide +kernel
theorem kM_divide_d91 : decode prog_7_method_8_code 91 = .ok (.goto (-60), 3) := by decide +kernel
theorem kM_divide_d94 : decode prog_7_method_8_code 94 = .ok (.return_, 1) := by decide +kernel
theorem kM_scale_d0 : decode prog_7_method_7_code 0 = .ok (.aload_n 1, 1) := by decide +kernel
theorem kM_scale_d1 : decode prog_7_method_7_code 1 = .ok (.getfield 59, 3) := by decide +kernel
theorem kM_scale_d4 : decode prog_7_method_7_code 4 = .ok (.invokevirtual 64, 3) := by decide +kernel
theorem kM_scale_d7 : decode prog_7_method_7_code 7 = .ok (.ifCond .eq 4, 3) := by decide +kernel
theorem kM_scale_d10 : decode prog_7_method_7_code 10 = .ok (.return_, 1) := by decide +kernel
theorem kM_scale_d11 : decode prog_7_method_7_code 11 = .ok (.aload_n 1, 1) := by decide +kernel
theorem kM_scale_d12 : decode prog_7_method_7_code 12 = .ok (.getfield 68, 3) := by decide +kernel
theorem kM_scale_d15 : decode prog_7_method_7_code 15 = .ok (.aload_n 0, 1) := by decide +kernel
theorem kM_scale_d16 : decode prog_7_method_7_code 16 = .ok (.getfield 27, 3) := by decide +kernel
theorem kM_scale_d19 : decode prog_7_method_7_code 19 = .ok (.aload_n 1, 1) := by decide +kernel
theorem kM_scale_d20 : decode prog_7_method_7_code 20 = .ok (.getfield 59, 3) := by decide +kernel
theorem kM_scale_d23 : decode prog_7_method_7_code 23 = .ok (.invokevirtual 71, 3) := by decide +kernel
theorem kM_scale_d26 : decode prog_7_method_7_code 26 = .ok (.aload_n 0, 1) := by decide +kernel
theorem kM_scale_d27 : decode prog_7_method_7_code 27 = .ok (.getfield 27, 3) := by decide +kernel
theorem kM_scale_d30 : decode prog_7_method_7_code 30 = .ok (.aload_n 1, 1) := by decide +kernel
theorem kM_scale_d31 : decode prog_7_method_7_code 31 = .ok (.getfield 68, 3) := by decide +kernel
theorem kM_scale_d34 : decode prog_7_method_7_code 34 = .ok (.invokevirtual 52, 3) := by decide +kernel
theorem kM_scale_d37 : decode prog_7_method_7_code 37 = .ok (.iconst 0, 1) := by decide +kernel
theorem kM_scale_d38 : decode prog_7_method_7_code 38 = .ok (.istore_n 2, 1) := by decide +kernel
theorem kM_scale_d39 : decode prog_7_method_7_code 39 = .ok (.iload_n 2, 1) := by decide +kernel
theorem kM_scale_d40 : decode prog_7_method_7_code 40 = .ok (.aload_n 0, 1) := by decide +kernel
theorem kM_scale_d41 : decode prog_7_method_7_code 41 = .ok (.getfield 9, 3) := by decide +kernel
theorem kM_scale_d44 : decode prog_7_method_7_code 44 = .ok (.if_icmp .ge 55, 3) := by decide +kernel
theorem kM_scale_d47 : decode prog_7_method_7_code 47 = .ok (.iconst 0, 1) := by decide +kernel
theorem kM_scale_d48 : decode prog_7_method_7_code 48 = .ok (.istore_n 3, 1) := by decide +kernel
theorem kM_scale_d49 : decode prog_7_method_7_code 49 = .ok (.iload_n 3, 1) := by decide +kernel
theorem kM_scale_d50 : decode prog_7_method_7_code 50 = .ok (.aload_n 0, 1) := by decide +kernel
theorem kM_scale_d51 : decode prog_7_method_7_code 51 = .ok (.getfield 15, 3) := by decide +kernel
theorem kM_scale_d54 : decode prog_7_method_7_code 54 = .ok (.if_icmp .ge 39, 3) := by decide +kernel
theorem kM_scale_d57 : decode prog_7_method_7_code 57 = .ok (.aload_n 1, 1) := by decide +kernel
theorem kM_scale_d58 : decode prog_7_method_7_code 58 = .ok (.getfield 68, 3) := by decide +kernel
theorem kM_scale_d61 : decode prog_7_method_7_code 61 = .ok (.aload_n 0, 1) := by decide +kernel
theorem kM_scale_d62 : decode prog_7_method_7_code 62 = .ok (.iload_n 2, 1) := by decide +kernel
theorem kM_scale_d63 : decode prog_7_method_7_code 63 = .ok (.iload_n 3, 1) := by decide +kernel
theorem kM_scale_d64 : decode prog_7_method_7_code 64 = .ok (.invokevirtual 41, 3) := by decide +kernel
theorem kM_scale_d67 : decode prog_7_method_7_code 67 = .ok (.aload_n 1, 1) := by decide +kernel
theorem kM_scale_d68 : decode prog_7_method_7_code 68 = .ok (.getfield 59, 3) := by decide +kernel
theorem kM_scale_d71 : decode prog_7_method_7_code 71 = .ok (.invokevirtual 71, 3) := by decide +kernel
theorem kM_scale_d74 : decode prog_7_method_7_code 74 = .ok (.aload_n 0, 1) := by decide +kernel
theorem kM_scale_d75 : decode prog_7_method_7_code 75 = .ok (.iload_n 2, 1) := by decide +kernel
theorem kM_scale_d76 : decode prog_7_method_7_code 76 = .ok (.iload_n 3, 1) := by decide +kernel
theorem kM_scale_d77 : decode prog_7_method_7_code 77 = .ok (.invokevirtual 41, 3) := by decide +kernel
theorem kM_scale_d80 : decode prog_7_method_7_code 80 = .ok (.aload_n 1, 1) := by decide +kernel
theorem kM_scale_d81 : decode prog_7_method_7_code 81 = .ok (.getfield 68, 3) := by decide +kernel
theorem kM_scale_d84 : decode prog_7_method_7_code 84 = .ok (.invokevirtual 52, 3) := by decide +kernel
theorem kM_scale_d87 : decode prog_7_method_7_code 87 = .ok (.iinc 3 1, 3) := by decide +kernel
theorem kM_scale_d90 : decode prog_7_method_7_code 90 = .ok (.goto (-41), 3) := by decide +kernel
theorem kM_scale_d93 : decode prog_7_method_7_code 93 = .ok (.iinc 2 1, 3) := by decide +kernel
theorem kM_scale_d96 : decode prog_7_method_7_code 96 = .ok (.goto (-57), 3) := by decide +kernel
theorem kM_scale_d99 : decode prog_7_method_7_code 99 = .ok (.return_, 1) := by decide +kernel
theorem kM_isTooLong_d0 : decode prog_7_method_9_code 0 = .ok (.aload_n 0, 1) := by decide +kernel
theorem kM_isTooLong_d1 : decode prog_7_method_9_code 1 = .ok (.getfield 27, 3) := by decide +kernel
theorem kM_isTooLong_d4 : decode prog_7_method_9_code 4 = .ok (.invokevirtual 90, 3) := by decide +kernel
theorem kM_isTooLong_d7 : decode prog_7_method_9_code 7 = .ok (.sipush 4000, 3) := by decide +kernel
theorem kM_isTooLong_d10 : decode prog_7_method_9_code 10 = .ok (.if_icmp .le 7, 3) := by decide +kernel
theorem kM_isTooLong_d13 : decode prog_7_method_9_code 13 = .ok (.iconst 1, 1) := by decide +kernel
theorem kM_isTooLong_d14 : decode prog_7_method_9_code 14 = .ok (.goto 4, 3) := by decide +kernel
theorem kM_isTooLong_d17 : decode prog_7_method_9_code 17 = .ok (.iconst 0, 1) := by decide +kernel
theorem kM_isTooLong_d18 : decode prog_7_method_9_code 18 = .ok (.istore_n 1, 1) := by decide +kernel
theorem kM_isTooLong_d19 : decode prog_7_method_9_code 19 = .ok (.aload_n 0, 1) := by decide +kernel
theorem kM_isTooLong_d20 : decode prog_7_method_9_code 20 = .ok (.getfield 27, 3) := by decide +kernel
theorem kM_isTooLong_d23 : decode prog_7_method_9_code 23 = .ok (.getfield 35, 3) := by decide +kernel
theorem kM_isTooLong_d26 : decode prog_7_method_9_code 26 = .ok (.istore_n 2, 1) := by decide +kernel
theorem kM_isTooLong_d27 : decode prog_7_method_9_code 27 = .ok (.iconst 0, 1) := by decide +kernel
theorem kM_isTooLong_d28 : decode prog_7_method_9_code 28 = .ok (.istore_n 3, 1) := by decide +kernel
theorem kM_isTooLong_d29 : decode prog_7_method_9_code 29 = .ok (.iload_n 3, 1) := by decide +kernel
theorem kM_isTooLong_d30 : decode prog_7_method_9_code 30 = .ok (.aload_n 0, 1) := by decide +kernel
theorem kM_isTooLong_d31 : decode prog_7_method_9_code 31 = .ok (.getfield 9, 3) := by decide +kernel
theorem kM_isTooLong_d34 : decode prog_7_method_9_code 34 = .ok (.if_icmp .ge 64, 3) := by decide +kernel
theorem kM_isTooLong_d37 : decode prog_7_method_9_code 37 = .ok (.iconst 0, 1) := by decide +kernel
theorem kM_isTooLong_d38 : decode prog_7_method_9_code 38 = .ok (.istore 4, 2) := by decide +kernel
theorem kM_isTooLong_d40 : decode prog_7_method_9_code 40 = .ok (.iload 4, 2) := by decide +kernel
theorem kM_isTooLong_d42 : decode prog_7_method_9_code 42 = .ok (.aload_n 0, 1) := by decide +kernel
theorem kM_isTooLong_d43 : decode prog_7_method_9_code 43 = .ok (.getfield 15, 3) := by decide +kernel
theorem kM_isTooLong_d46 : decode prog_7_method_9_code 46 = .ok (.if_icmp .ge 46, 3) := by decide +kernel
theorem kM_isTooLong_d49 : decode prog_7_method_9_code 49 = .ok (.iload_n 1, 1) := by decide +kernel
theorem kM_isTooLong_d50 : decode prog_7_method_9_code 50 = .ok (.aload_n 0, 1) := by decide +kernel
theorem kM_isTooLong_d51 : decode prog_7_method_9_code 51 = .ok (.iload_n 3, 1) := by decide +kernel
theorem kM_isTooLong_d52 : decode prog_7_method_9_code 52 = .ok (.iload 4, 2) := by decide +kernel
theorem kM_isTooLong_d54 : decode prog_7_method_9_code 54 = .ok (.invokevirtual 41, 3) := by decide +kernel
theorem kM_isTooLong_d57 : decode prog_7_method_9_code 57 = .ok (.invokevirtual 90, 3) := by decide +kernel
theorem kM_isTooLong_d60 : decode prog_7_method_9_code 60 = .ok (.sipush 4000, 3) := by decide +kernel
theorem kM_isTooLong_d63 : decode prog_7_method_9_code 63 = .ok (.if_icmp .le 7, 3) := by decide +kernel
theorem kM_isTooLong_d66 : decode prog_7_method_9_code 66 = .ok (.iconst 1, 1) := by decide +kernel
theorem kM_isTooLong_d67 : decode prog_7_method_9_code 67 = .ok (.goto 4, 3) := by decide +kernel
theorem kM_isTooLong_d70 : decode prog_7_method_9_code 70 = .ok (.iconst 0, 1) := by decide +kernel
theorem kM_isTooLong_d71 : decode prog_7_method_9_code 71 = .ok (.ior, 1) := by decide +kernel
theorem kM_isTooLong_d72 : decode prog_7_method_9_code 72 = .ok (.istore_n 1, 1) := by decide +kernel
theorem kM_isTooLong_d73 : decode prog_7_method_9_code 73 = .ok (.iload_n 2, 1) := by decide +kernel
theorem kM_isTooLong_d74 : decode prog_7_method_9_code 74 = .ok (.aload_n 0, 1) := by decide +kernel
theorem kM_isTooLong_d75 : decode prog_7_method_9_code 75 = .ok (.iload_n 3, 1) := by decide +kernel
theorem kM_isTooLong_d76 : decode prog_7_method_9_code 76 = .ok (.iload 4, 2) := by decide +kernel
theorem kM_isTooLong_d78 : decode prog_7_method_9_code 78 = .ok (.invokevirtual 41, 3) := by decide +kernel
theorem kM_isTooLong_d81 : decode prog_7_method_9_code 81 = .ok (.getfield 35, 3) := by decide +kernel
theorem kM_isTooLong_d84 : decode prog_7_method_9_code 84 = .ok (.iadd, 1) := by decide +kernel
theorem kM_isTooLong_d85 : decode prog_7_method_9_code 85 = .ok (.istore_n 2, 1) := by decide +kernel
theorem kM_isTooLong_d86 : decode prog_7_method_9_code 86 = .ok (.iinc 4 1, 3) := by decide +kernel
theorem kM_isTooLong_d89 : decode prog_7_method_9_code 89 = .ok (.goto (-49), 3) := by decide +kernel
theorem kM_isTooLong_d92 : decode prog_7_method_9_code 92 = .ok (.iinc 3 1, 3) := by decide +kernel
theorem kM_isTooLong_d95 : decode prog_7_method_9_code 95 = .ok (.goto (-66), 3) := by decide +kernel
theorem kM_isTooLong_d98 : decode prog_7_method_9_code 98 = .ok (.iload_n 1, 1) := by decide +kernel
theorem kM_isTooLong_d99 : decode prog_7_method_9_code 99 = .ok (.ifCond .ne 10, 3) := by decide +kernel
theorem kM_isTooLong_d102 : decode prog_7_method_9_code 102 = .ok (.iload_n 2, 1) := by decide +kernel
theorem kM_isTooLong_d103 : decode prog_7_method_9_code 103 = .ok (.sipush 20000, 3) := by decide +kernel
theorem kM_isTooLong_d106 : decode prog_7_method_9_code 106 = .ok (.if_icmp .le 7, 3) := by decide +kernel
theorem kM_isTooLong_d109 : decode prog_7_method_9_code 109 = .ok (.iconst 1, 1) := by decide +kernel
theorem kM_isTooLong_d110 : decode prog_7_method_9_code 110 = .ok (.goto 4, 3) := by decide +kernel
theorem kM_isTooLong_d113 : decode prog_7_method_9_code 113 = .ok (.iconst 0, 1) := by decide +kernel
theorem kM_isTooLong_d114 : decode prog_7_method_9_code 114 = .ok (.ireturn, 1) := by decide +kernel
theorem kM_clearToUnit_d0 : decode prog_7_method_4_code 0 = .ok (.aload_n 0, 1) := by decide +kernel
theorem kM_clearToUnit_d1 : decode prog_7_method_4_code 1 = .ok (.iload_n 1, 1) := by decide +kernel
theorem kM_clearToUnit_d2 : decode prog_7_method_4_code 2 = .ok (.iload_n 1, 1) := by decide +kernel
theorem kM_clearToUnit_d3 : decode prog_7_method_4_code 3 = .ok (.invokevirtual 48, 3) := by decide +kernel
theorem kM_clearToUnit_d6 : decode prog_7_method_4_code 6 = .ok (.iconst 0, 1) := by decide +kernel
theorem kM_clearToUnit_d7 : decode prog_7_method_4_code 7 = .ok (.istore_n 2, 1) := by decide +kernel
theorem kM_clearToUnit_d8 : decode prog_7_method_4_code 8 = .ok (.iload_n 2, 1) := by decide +kernel
theorem kM_clearToUnit_d9 : decode prog_7_method_4_code 9 = .ok (.iload_n 1, 1) := by decide +kernel
theorem kM_clearToUnit_d10 : decode prog_7_method_4_code 10 = .ok (.if_icmp .ge 18, 3) := by decide +kernel
theorem kM_clearToUnit_d13 : decode prog_7_method_4_code 13 = .ok (.aload_n 0, 1) := by decide +kernel
theorem kM_clearToUnit_d14 : decode prog_7_method_4_code 14 = .ok (.iload_n 2, 1) := by decide +kernel
theorem kM_clearToUnit_d15 : decode prog_7_method_4_code 15 = .ok (.iload_n 2, 1) := by decide +kernel
theorem kM_clearToUnit_d16 : decode prog_7_method_4_code 16 = .ok (.invokevirtual 41, 3) := by decide +kernel
theorem kM_clearToUnit_d19 : decode prog_7_method_4_code 19 = .ok (.invokevirtual 38, 3) := by decide +kernel
theorem kM_clearToUnit_d22 : decode prog_7_method_4_code 22 = .ok (.iinc 2 1, 3) := by decide +kernel
theorem kM_clearToUnit_d25 : decode prog_7_method_4_code 25 = .ok (.goto (-17), 3) := by decide +kernel
theorem kM_clearToUnit_d28 : decode prog_7_method_4_code 28 = .ok (.return_, 1) := by decide +kernel
theorem kM_equalTo_d0 : decode prog_7_method_10_code 0 = .ok (.aload_n 0, 1) := by decide +kernel
theorem kM_equalTo_d1 : decode prog_7_method_10_code 1 = .ok (.getfield 9, 3) := by decide +kernel
theorem kM_equalTo_d4 : decode prog_7_method_10_code 4 = .ok (.aload_n 1, 1) := by decide +kernel
theorem kM_equalTo_d5 : decode prog_7_method_10_code 5 = .ok (.getfield 9, 3) := by decide +kernel
theorem kM_equalTo_d8 : decode prog_7_method_10_code 8 = .ok (.if_icmp .ne 28, 3) := by decide +kernel
theorem kM_equalTo_d11 : decode prog_7_method_10_code 11 = .ok (.aload_n 0, 1) := by decide +kernel
theorem kM_equalTo_d12 : decode prog_7_method_10_code 12 = .ok (.getfield 15, 3) := by decide +kernel
theorem kM_equalTo_d15 : decode prog_7_method_10_code 15 = .ok (.aload_n 1, 1) := by decide +kernel
theorem kM_equalTo_d16 : decode prog_7_method_10_code 16 = .ok (.getfield 15, 3) := by decide +kernel
theorem kM_equalTo_d19 : decode prog_7_method_10_code 19 = .ok (.if_icmp .ne 17, 3) := by decide +kernel
theorem kM_equalTo_d22 : decode prog_7_method_10_code 22 = .ok (.aload_n 0, 1) := by decide +kernel
theorem kM_equalTo_d23 : decode prog_7_method_10_code 23 = .ok (.getfield 27, 3) := by decide +kernel
theorem kM_equalTo_d26 : decode prog_7_method_10_code 26 = .ok (.aload_n 1, 1) := by decide +kernel
theorem kM_equalTo_d27 : decode prog_7_method_10_code 27 = .ok (.getfield 27, 3) := by decide +kernel
theorem kM_equalTo_d30 : decode prog_7_method_10_code 30 = .ok (.invokevirtual 94, 3) := by decide +kernel
theorem kM_equalTo_d33 : decode prog_7_method_10_code 33 = .ok (.ifCond .ne 5, 3) := by decide +kernel
theorem kM_equalTo_d36 : decode prog_7_method_10_code 36 = .ok (.iconst 0, 1) := by decide +kernel
theorem kM_equalTo_d37 : decode prog_7_method_10_code 37 = .ok (.ireturn, 1) := by decide +kernel
theorem kM_equalTo_d38 : decode prog_7_method_10_code 38 = .ok (.iconst 0, 1) := by decide +kernel
theorem kM_equalTo_d39 : decode prog_7_method_10_code 39 = .ok (.istore_n 2, 1) := by decide +kernel
theorem kM_equalTo_d40 : decode prog_7_method_10_code 40 = .ok (.iload_n 2, 1) := by decide +kernel
theorem kM_equalTo_d41 : decode prog_7_method_10_code 41 = .ok (.aload_n 0, 1) := by decide +kernel
theorem kM_equalTo_d42 : decode prog_7_method_10_code 42 = .ok (.getfield 9, 3) := by decide +kernel
theorem kM_equalTo_d45 : decode prog_7_method_10_code 45 = .ok (.if_icmp .ge 45, 3) := by decide +kernel
theorem kM_equalTo_d48 : decode prog_7_method_10_code 48 = .ok (.iconst 0, 1) := by decide +kernel
theorem kM_equalTo_d49 : decode prog_7_method_10_code 49 = .ok (.istore_n 3, 1) := by decide +kernel
theorem kM_equalTo_d50 : decode prog_7_method_10_code 50 = .ok (.iload_n 3, 1) := by decide +kernel
theorem kM_equalTo_d51 : decode prog_7_method_10_code 51 = .ok (.aload_n 0, 1) := by decide +kernel
theorem kM_equalTo_d52 : decode prog_7_method_10_code 52 = .ok (.getfield 15, 3) := by decide +kernel
theorem kM_equalTo_d55 : decode prog_7_method_10_code 55 = .ok (.if_icmp .ge 29, 3) := by decide +kernel
theorem kM_equalTo_d58 : decode prog_7_method_10_code 58 = .ok (.aload_n 0, 1) := by decide +kernel
theorem kM_equalTo_d59 : decode prog_7_method_10_code 59 = .ok (.iload_n 2, 1) := by decide +kernel
theorem kM_equalTo_d60 : decode prog_7_method_10_code 60 = .ok (.iload_n 3, 1) := by decide +kernel
theorem kM_equalTo_d61 : decode prog_7_method_10_code 61 = .ok (.invokevirtual 41, 3) := by decide +kernel
theorem kM_equalTo_d64 : decode prog_7_method_10_code 64 = .ok (.aload_n 1, 1) := by decide +kernel
theorem kM_equalTo_d65 : decode prog_7_method_10_code 65 = .ok (.iload_n 2, 1) := by decide +kernel
theorem kM_equalTo_d66 : decode prog_7_method_10_code 66 = .ok (.iload_n 3, 1) := by decide +kernel
theorem kM_equalTo_d67 : decode prog_7_method_10_code 67 = .ok (.invokevirtual 41, 3) := by decide +kernel
theorem kM_equalTo_d70 : decode prog_7_method_10_code 70 = .ok (.invokevirtual 94, 3) := by decide +kernel
theorem kM_equalTo_d73 : decode prog_7_method_10_code 73 = .ok (.ifCond .ne 5, 3) := by decide +kernel
theorem kM_equalTo_d76 : decode prog_7_method_10_code 76 = .ok (.iconst 0, 1) := by decide +kernel
theorem kM_equalTo_d77 : decode prog_7_method_10_code 77 = .ok (.ireturn, 1) := by decide +kernel
theorem kM_equalTo_d78 : decode prog_7_method_10_code 78 = .ok (.iinc 3 1, 3) := by decide +kernel
theorem kM_equalTo_d81 : decode prog_7_method_10_code 81 = .ok (.goto (-31), 3) := by decide +kernel
theorem kM_equalTo_d84 : decode prog_7_method_10_code 84 = .ok (.iinc 2 1, 3) := by decide +kernel
theorem kM_equalTo_d87 : decode prog_7_method_10_code 87 = .ok (.goto (-47), 3) := by decide +kernel
theorem kM_equalTo_d90 : decode prog_7_method_10_code 90 = .ok (.iconst 1, 1) := by decide +kernel
theorem kM_equalTo_d91 : decode prog_7_method_10_code 91 = .ok (.ireturn, 1) := by decide +kernel
