/-! decode rows of Fractions -/
theorem kRF_init_d0 : decode prog_13_method_1_code 0 = .ok (.aload_n 0, 1) := by decide +kernel
theorem kRF_init_d1 : decode prog_13_method_1_code 1 = .ok (.invokespecial 1, 3) := by decide +kernel
theorem kRF_init_d4 : decode prog_13_method_1_code 4 = .ok (.aload_n 0, 1) := by decide +kernel
theorem kRF_init_d5 : decode prog_13_method_1_code 5 = .ok (.new 7, 3) := by decide +kernel
theorem kRF_init_d8 : decode prog_13_method_1_code 8 = .ok (.dup, 1) := by decide +kernel
theorem kRF_init_d9 : decode prog_13_method_1_code 9 = .ok (.invokespecial 9, 3) := by decide +kernel
theorem kRF_init_d12 : decode prog_13_method_1_code 12 = .ok (.putfield 10, 3) := by decide +kernel
theorem kRF_init_d15 : decode prog_13_method_1_code 15 = .ok (.aload_n 0, 1) := by decide +kernel
theorem kRF_init_d16 : decode prog_13_method_1_code 16 = .ok (.sipush 4096, 3) := by decide +kernel
theorem kRF_init_d19 : decode prog_13_method_1_code 19 = .ok (.newarray .int, 2) := by decide +kernel
theorem kRF_init_d21 : decode prog_13_method_1_code 21 = .ok (.putfield 16, 3) := by decide +kernel
theorem kRF_init_d24 : decode prog_13_method_1_code 24 = .ok (.aload_n 0, 1) := by decide +kernel
theorem kRF_init_d25 : decode prog_13_method_1_code 25 = .ok (.bipush 64, 2) := by decide +kernel
theorem kRF_init_d27 : decode prog_13_method_1_code 27 = .ok (.newarray .int, 2) := by decide +kernel
theorem kRF_init_d29 : decode prog_13_method_1_code 29 = .ok (.putfield 20, 3) := by decide +kernel
theorem kRF_init_d32 : decode prog_13_method_1_code 32 = .ok (.aload_n 0, 1) := by decide +kernel
theorem kRF_init_d33 : decode prog_13_method_1_code 33 = .ok (.getfield 10, 3) := by decide +kernel
theorem kRF_init_d36 : decode prog_13_method_1_code 36 = .ok (.getfield 23, 3) := by decide +kernel
theorem kRF_init_d39 : decode prog_13_method_1_code 39 = .ok (.iconst 1, 1) := by decide +kernel
theorem kRF_init_d40 : decode prog_13_method_1_code 40 = .ok (.iconst 1, 1) := by decide +kernel
theorem kRF_init_d41 : decode prog_13_method_1_code 41 = .ok (.iastore, 1) := by decide +kernel
theorem kRF_init_d42 : decode prog_13_method_1_code 42 = .ok (.aload_n 0, 1) := by decide +kernel
theorem kRF_init_d43 : decode prog_13_method_1_code 43 = .ok (.getfield 10, 3) := by decide +kernel
theorem kRF_init_d46 : decode prog_13_method_1_code 46 = .ok (.getfield 23, 3) := by decide +kernel
theorem kRF_init_d49 : decode prog_13_method_1_code 49 = .ok (.iconst 2, 1) := by decide +kernel
theorem kRF_init_d50 : decode prog_13_method_1_code 50 = .ok (.iconst 1, 1) := by decide +kernel
theorem kRF_init_d51 : decode prog_13_method_1_code 51 = .ok (.iastore, 1) := by decide +kernel
theorem kRF_init_d52 : decode prog_13_method_1_code 52 = .ok (.aload_n 0, 1) := by decide +kernel
theorem kRF_init_d53 : decode prog_13_method_1_code 53 = .ok (.getfield 10, 3) := by decide +kernel
theorem kRF_init_d56 : decode prog_13_method_1_code 56 = .ok (.iconst 3, 1) := by decide +kernel
theorem kRF_init_d57 : decode prog_13_method_1_code 57 = .ok (.putfield 26, 3) := by decide +kernel
theorem kRF_init_d60 : decode prog_13_method_1_code 60 = .ok (.return_, 1) := by decide +kernel
theorem kRF_make_d0 : decode prog_13_method_7_code 0 = .ok (.iconst 2, 1) := by decide +kernel
theorem kRF_make_d1 : decode prog_13_method_7_code 1 = .ok (.iconst 2, 1) := by decide +kernel
theorem kRF_make_d2 : decode prog_13_method_7_code 2 = .ok (.iload_n 1, 1) := by decide +kernel
theorem kRF_make_d3 : decode prog_13_method_7_code 3 = .ok (.imul, 1) := by decide +kernel
theorem kRF_make_d4 : decode prog_13_method_7_code 4 = .ok (.iload_n 2, 1) := by decide +kernel
theorem kRF_make_d5 : decode prog_13_method_7_code 5 = .ok (.imul, 1) := by decide +kernel
theorem kRF_make_d6 : decode prog_13_method_7_code 6 = .ok (.iadd, 1) := by decide +kernel
theorem kRF_make_d7 : decode prog_13_method_7_code 7 = .ok (.istore_n 3, 1) := by decide +kernel
theorem kRF_make_d8 : decode prog_13_method_7_code 8 = .ok (.aload_n 0, 1) := by decide +kernel
theorem kRF_make_d9 : decode prog_13_method_7_code 9 = .ok (.getfield 16, 3) := by decide +kernel
theorem kRF_make_d12 : decode prog_13_method_7_code 12 = .ok (.arraylength, 1) := by decide +kernel
theorem kRF_make_d13 : decode prog_13_method_7_code 13 = .ok (.istore 4, 2) := by decide +kernel
theorem kRF_make_d15 : decode prog_13_method_7_code 15 = .ok (.aload_n 0, 1) := by decide +kernel
theorem kRF_make_d16 : decode prog_13_method_7_code 16 = .ok (.getfield 30, 3) := by decide +kernel
theorem kRF_make_d19 : decode prog_13_method_7_code 19 = .ok (.iload_n 3, 1) := by decide +kernel
theorem kRF_make_d20 : decode prog_13_method_7_code 20 = .ok (.iadd, 1) := by decide +kernel
theorem kRF_make_d21 : decode prog_13_method_7_code 21 = .ok (.iload 4, 2) := by decide +kernel
theorem kRF_make_d23 : decode prog_13_method_7_code 23 = .ok (.if_icmp .le 12, 3) := by decide +kernel
theorem kRF_make_d26 : decode prog_13_method_7_code 26 = .ok (.iconst 2, 1) := by decide +kernel
theorem kRF_make_d27 : decode prog_13_method_7_code 27 = .ok (.iload 4, 2) := by decide +kernel
theorem kRF_make_d29 : decode prog_13_method_7_code 29 = .ok (.imul, 1) := by decide +kernel
theorem kRF_make_d30 : decode prog_13_method_7_code 30 = .ok (.istore 4, 2) := by decide +kernel
theorem kRF_make_d32 : decode prog_13_method_7_code 32 = .ok (.goto (-17), 3) := by decide +kernel
theorem kRF_make_d35 : decode prog_13_method_7_code 35 = .ok (.iload 4, 2) := by decide +kernel
theorem kRF_make_d37 : decode prog_13_method_7_code 37 = .ok (.aload_n 0, 1) := by decide +kernel
theorem kRF_make_d38 : decode prog_13_method_7_code 38 = .ok (.getfield 16, 3) := by decide +kernel
theorem kRF_make_d41 : decode prog_13_method_7_code 41 = .ok (.arraylength, 1) := by decide +kernel
theorem kRF_make_d42 : decode prog_13_method_7_code 42 = .ok (.if_icmp .le 16, 3) := by decide +kernel
theorem kRF_make_d45 : decode prog_13_method_7_code 45 = .ok (.aload_n 0, 1) := by decide +kernel
theorem kRF_make_d46 : decode prog_13_method_7_code 46 = .ok (.aload_n 0, 1) := by decide +kernel
theorem kRF_make_d47 : decode prog_13_method_7_code 47 = .ok (.getfield 16, 3) := by decide +kernel
theorem kRF_make_d50 : decode prog_13_method_7_code 50 = .ok (.iload 4, 2) := by decide +kernel
theorem kRF_make_d52 : decode prog_13_method_7_code 52 = .ok (.invokestatic 31, 3) := by decide +kernel
theorem kRF_make_d55 : decode prog_13_method_7_code 55 = .ok (.putfield 16, 3) := by decide +kernel
theorem kRF_make_d58 : decode prog_13_method_7_code 58 = .ok (.aload_n 0, 1) := by decide +kernel
theorem kRF_make_d59 : decode prog_13_method_7_code 59 = .ok (.getfield 30, 3) := by decide +kernel
theorem kRF_make_d62 : decode prog_13_method_7_code 62 = .ok (.istore 5, 2) := by decide +kernel
theorem kRF_make_d64 : decode prog_13_method_7_code 64 = .ok (.aload_n 0, 1) := by decide +kernel
theorem kRF_make_d65 : decode prog_13_method_7_code 65 = .ok (.dup, 1) := by decide +kernel
theorem kRF_make_d66 : decode prog_13_method_7_code 66 = .ok (.getfield 30, 3) := by decide +kernel
theorem kRF_make_d69 : decode prog_13_method_7_code 69 = .ok (.iload_n 3, 1) := by decide +kernel
theorem kRF_make_d70 : decode prog_13_method_7_code 70 = .ok (.iadd, 1) := by decide +kernel
theorem kRF_make_d71 : decode prog_13_method_7_code 71 = .ok (.putfield 30, 3) := by decide +kernel
theorem kRF_make_d74 : decode prog_13_method_7_code 74 = .ok (.aload_n 0, 1) := by decide +kernel
theorem kRF_make_d75 : decode prog_13_method_7_code 75 = .ok (.getfield 16, 3) := by decide +kernel
theorem kRF_make_d78 : decode prog_13_method_7_code 78 = .ok (.iload 5, 2) := by decide +kernel
theorem kRF_make_d80 : decode prog_13_method_7_code 80 = .ok (.iload_n 1, 1) := by decide +kernel
theorem kRF_make_d81 : decode prog_13_method_7_code 81 = .ok (.iastore, 1) := by decide +kernel
theorem kRF_make_d82 : decode prog_13_method_7_code 82 = .ok (.aload_n 0, 1) := by decide +kernel
theorem kRF_make_d83 : decode prog_13_method_7_code 83 = .ok (.getfield 16, 3) := by decide +kernel
theorem kRF_make_d86 : decode prog_13_method_7_code 86 = .ok (.iload 5, 2) := by decide +kernel
theorem kRF_make_d88 : decode prog_13_method_7_code 88 = .ok (.iconst 1, 1) := by decide +kernel
theorem kRF_make_d89 : decode prog_13_method_7_code 89 = .ok (.iadd, 1) := by decide +kernel
theorem kRF_make_d90 : decode prog_13_method_7_code 90 = .ok (.iload_n 2, 1) := by decide +kernel
theorem kRF_make_d91 : decode prog_13_method_7_code 91 = .ok (.iastore, 1) := by decide +kernel
theorem kRF_make_d92 : decode prog_13_method_7_code 92 = .ok (.iload 5, 2) := by decide +kernel
theorem kRF_make_d94 : decode prog_13_method_7_code 94 = .ok (.ireturn, 1) := by decide +kernel
theorem kRF_whole_d0 : decode prog_13_method_13_code 0 = .ok (.aload_n 0, 1) := by decide +kernel
theorem kRF_whole_d1 : decode prog_13_method_13_code 1 = .ok (.aload_n 0, 1) := by decide +kernel
theorem kRF_whole_d2 : decode prog_13_method_13_code 2 = .ok (.getfield 10, 3) := by decide +kernel
theorem kRF_whole_d5 : decode prog_13_method_13_code 5 = .ok (.lload_n 1, 1) := by decide +kernel
theorem kRF_whole_d6 : decode prog_13_method_13_code 6 = .ok (.invokevirtual 96, 3) := by decide +kernel
theorem kRF_whole_d9 : decode prog_13_method_13_code 9 = .ok (.putfield 37, 3) := by decide +kernel
theorem kRF_whole_d12 : decode prog_13_method_13_code 12 = .ok (.aload_n 0, 1) := by decide +kernel
theorem kRF_whole_d13 : decode prog_13_method_13_code 13 = .ok (.iconst 1, 1) := by decide +kernel
theorem kRF_whole_d14 : decode prog_13_method_13_code 14 = .ok (.putfield 40, 3) := by decide +kernel
theorem kRF_whole_d17 : decode prog_13_method_13_code 17 = .ok (.return_, 1) := by decide +kernel
theorem kRF_put_d0 : decode prog_13_method_8_code 0 = .ok (.aload_n 0, 1) := by decide +kernel
theorem kRF_put_d1 : decode prog_13_method_8_code 1 = .ok (.getfield 16, 3) := by decide +kernel
theorem kRF_put_d4 : decode prog_13_method_8_code 4 = .ok (.iload_n 1, 1) := by decide +kernel
theorem kRF_put_d5 : decode prog_13_method_8_code 5 = .ok (.iconst 2, 1) := by decide +kernel
theorem kRF_put_d6 : decode prog_13_method_8_code 6 = .ok (.iadd, 1) := by decide +kernel
theorem kRF_put_d7 : decode prog_13_method_8_code 7 = .ok (.iconst 2, 1) := by decide +kernel
theorem kRF_put_d8 : decode prog_13_method_8_code 8 = .ok (.iload_n 2, 1) := by decide +kernel
theorem kRF_put_d9 : decode prog_13_method_8_code 9 = .ok (.imul, 1) := by decide +kernel
theorem kRF_put_d10 : decode prog_13_method_8_code 10 = .ok (.iadd, 1) := by decide +kernel
theorem kRF_put_d11 : decode prog_13_method_8_code 11 = .ok (.aload_n 0, 1) := by decide +kernel
theorem kRF_put_d12 : decode prog_13_method_8_code 12 = .ok (.getfield 37, 3) := by decide +kernel
theorem kRF_put_d15 : decode prog_13_method_8_code 15 = .ok (.iastore, 1) := by decide +kernel
theorem kRF_put_d16 : decode prog_13_method_8_code 16 = .ok (.aload_n 0, 1) := by decide +kernel
theorem kRF_put_d17 : decode prog_13_method_8_code 17 = .ok (.getfield 16, 3) := by decide +kernel
theorem kRF_put_d20 : decode prog_13_method_8_code 20 = .ok (.iload_n 1, 1) := by decide +kernel
theorem kRF_put_d21 : decode prog_13_method_8_code 21 = .ok (.iconst 3, 1) := by decide +kernel
theorem kRF_put_d22 : decode prog_13_method_8_code 22 = .ok (.iadd, 1) := by decide +kernel
theorem kRF_put_d23 : decode prog_13_method_8_code 23 = .ok (.iconst 2, 1) := by decide +kernel
theorem kRF_put_d24 : decode prog_13_method_8_code 24 = .ok (.iload_n 2, 1) := by decide +kernel
theorem kRF_put_d25 : decode prog_13_method_8_code 25 = .ok (.imul, 1) := by decide +kernel
theorem kRF_put_d26 : decode prog_13_method_8_code 26 = .ok (.iadd, 1) := by decide +kernel
theorem kRF_put_d27 : decode prog_13_method_8_code 27 = .ok (.aload_n 0, 1) := by decide +kernel
theorem kRF_put_d28 : decode prog_13_method_8_code 28 = .ok (.getfield 40, 3) := by decide +kernel
theorem kRF_put_d31 : decode prog_13_method_8_code 31 = .ok (.iastore, 1) := by decide +kernel
theorem kRF_put_d32 : decode prog_13_method_8_code 32 = .ok (.return_, 1) := by decide +kernel
theorem kRF_rows_d0 : decode prog_13_method_2_code 0 = .ok (.aload_n 0, 1) := by decide +kernel
theorem kRF_rows_d1 : decode prog_13_method_2_code 1 = .ok (.getfield 16, 3) := by decide +kernel
theorem kRF_rows_d4 : decode prog_13_method_2_code 4 = .ok (.iload_n 1, 1) := by decide +kernel
theorem kRF_rows_d5 : decode prog_13_method_2_code 5 = .ok (.iaload, 1) := by decide +kernel
theorem kRF_rows_d6 : decode prog_13_method_2_code 6 = .ok (.ireturn, 1) := by decide +kernel
theorem kRF_columns_d0 : decode prog_13_method_3_code 0 = .ok (.aload_n 0, 1) := by decide +kernel
theorem kRF_columns_d1 : decode prog_13_method_3_code 1 = .ok (.getfield 16, 3) := by decide +kernel
theorem kRF_columns_d4 : decode prog_13_method_3_code 4 = .ok (.iload_n 1, 1) := by decide +kernel
theorem kRF_columns_d5 : decode prog_13_method_3_code 5 = .ok (.iconst 1, 1) := by decide +kernel
theorem kRF_columns_d6 : decode prog_13_method_3_code 6 = .ok (.iadd, 1) := by decide +kernel
theorem kRF_columns_d7 : decode prog_13_method_3_code 7 = .ok (.iaload, 1) := by decide +kernel
theorem kRF_columns_d8 : decode prog_13_method_3_code 8 = .ok (.ireturn, 1) := by decide +kernel
theorem kRF_cells_d0 : decode prog_13_method_4_code 0 = .ok (.aload_n 0, 1) := by decide +kernel
theorem kRF_cells_d1 : decode prog_13_method_4_code 1 = .ok (.getfield 16, 3) := by decide +kernel
theorem kRF_cells_d4 : decode prog_13_method_4_code 4 = .ok (.iload_n 1, 1) := by decide +kernel
theorem kRF_cells_d5 : decode prog_13_method_4_code 5 = .ok (.iaload, 1) := by decide +kernel
theorem kRF_cells_d6 : decode prog_13_method_4_code 6 = .ok (.aload_n 0, 1) := by decide +kernel
theorem kRF_cells_d7 : decode prog_13_method_4_code 7 = .ok (.getfield 16, 3) := by decide +kernel
theorem kRF_cells_d10 : decode prog_13_method_4_code 10 = .ok (.iload_n 1, 1) := by decide +kernel
theorem kRF_cells_d11 : decode prog_13_method_4_code 11 = .ok (.iconst 1, 1) := by decide +kernel
theorem kRF_cells_d12 : decode prog_13_method_4_code 12 = .ok (.iadd, 1) := by decide +kernel
theorem kRF_cells_d13 : decode prog_13_method_4_code 13 = .ok (.iaload, 1) := by decide +kernel
theorem kRF_cells_d14 : decode prog_13_method_4_code 14 = .ok (.imul, 1) := by decide +kernel
theorem kRF_cells_d15 : decode prog_13_method_4_code 15 = .ok (.ireturn, 1) := by decide +kernel
theorem kRF_upper_d0 : decode prog_13_method_5_code 0 = .ok (.aload_n 0, 1) := by decide +kernel
theorem kRF_upper_d1 : decode prog_13_method_5_code 1 = .ok (.getfield 16, 3) := by decide +kernel
theorem kRF_upper_d4 : decode prog_13_method_5_code 4 = .ok (.iload_n 1, 1) := by decide +kernel
theorem kRF_upper_d5 : decode prog_13_method_5_code 5 = .ok (.iconst 2, 1) := by decide +kernel
theorem kRF_upper_d6 : decode prog_13_method_5_code 6 = .ok (.iadd, 1) := by decide +kernel
theorem kRF_upper_d7 : decode prog_13_method_5_code 7 = .ok (.iconst 2, 1) := by decide +kernel
theorem kRF_upper_d8 : decode prog_13_method_5_code 8 = .ok (.iload_n 2, 1) := by decide +kernel
theorem kRF_upper_d9 : decode prog_13_method_5_code 9 = .ok (.imul, 1) := by decide +kernel
theorem kRF_upper_d10 : decode prog_13_method_5_code 10 = .ok (.iadd, 1) := by decide +kernel
theorem kRF_upper_d11 : decode prog_13_method_5_code 11 = .ok (.iaload, 1) := by decide +kernel
theorem kRF_upper_d12 : decode prog_13_method_5_code 12 = .ok (.ireturn, 1) := by decide +kernel
theorem kRF_lower_d0 : decode prog_13_method_6_code 0 = .ok (.aload_n 0, 1) := by decide +kernel
theorem kRF_lower_d1 : decode prog_13_method_6_code 1 = .ok (.getfield 16, 3) := by decide +kernel
theorem kRF_lower_d4 : decode prog_13_method_6_code 4 = .ok (.iload_n 1, 1) := by decide +kernel
theorem kRF_lower_d5 : decode prog_13_method_6_code 5 = .ok (.iconst 3, 1) := by decide +kernel
theorem kRF_lower_d6 : decode prog_13_method_6_code 6 = .ok (.iadd, 1) := by decide +kernel
theorem kRF_lower_d7 : decode prog_13_method_6_code 7 = .ok (.iconst 2, 1) := by decide +kernel
theorem kRF_lower_d8 : decode prog_13_method_6_code 8 = .ok (.iload_n 2, 1) := by decide +kernel
theorem kRF_lower_d9 : decode prog_13_method_6_code 9 = .ok (.imul, 1) := by decide +kernel
theorem kRF_lower_d10 : decode prog_13_method_6_code 10 = .ok (.iadd, 1) := by decide +kernel
theorem kRF_lower_d11 : decode prog_13_method_6_code 11 = .ok (.iaload, 1) := by decide +kernel
theorem kRF_lower_d12 : decode prog_13_method_6_code 12 = .ok (.ireturn, 1) := by decide +kernel
theorem kRF_divide_d0 : decode prog_13_method_17_code 0 = .ok (.aload_n 0, 1) := by decide +kernel
theorem kRF_divide_d1 : decode prog_13_method_17_code 1 = .ok (.getfield 10, 3) := by decide +kernel
theorem kRF_divide_d4 : decode prog_13_method_17_code 4 = .ok (.getfield 26, 3) := by decide +kernel
theorem kRF_divide_d7 : decode prog_13_method_17_code 7 = .ok (.istore 5, 2) := by decide +kernel
theorem kRF_divide_d9 : decode prog_13_method_17_code 9 = .ok (.aload_n 0, 1) := by decide +kernel
theorem kRF_divide_d10 : decode prog_13_method_17_code 10 = .ok (.iload 5, 2) := by decide +kernel
theorem kRF_divide_d12 : decode prog_13_method_17_code 12 = .ok (.aload_n 0, 1) := by decide +kernel
theorem kRF_divide_d13 : decode prog_13_method_17_code 13 = .ok (.getfield 10, 3) := by decide +kernel
theorem kRF_divide_d16 : decode prog_13_method_17_code 16 = .ok (.iload_n 1, 1) := by decide +kernel
theorem kRF_divide_d17 : decode prog_13_method_17_code 17 = .ok (.iload 4, 2) := by decide +kernel
theorem kRF_divide_d19 : decode prog_13_method_17_code 19 = .ok (.invokevirtual 106, 3) := by decide +kernel
theorem kRF_divide_d22 : decode prog_13_method_17_code 22 = .ok (.aload_n 0, 1) := by decide +kernel
theorem kRF_divide_d23 : decode prog_13_method_17_code 23 = .ok (.getfield 10, 3) := by decide +kernel
theorem kRF_divide_d26 : decode prog_13_method_17_code 26 = .ok (.iload_n 2, 1) := by decide +kernel
theorem kRF_divide_d27 : decode prog_13_method_17_code 27 = .ok (.iload_n 3, 1) := by decide +kernel
theorem kRF_divide_d28 : decode prog_13_method_17_code 28 = .ok (.invokevirtual 106, 3) := by decide +kernel
theorem kRF_divide_d31 : decode prog_13_method_17_code 31 = .ok (.invokevirtual 109, 3) := by decide +kernel
theorem kRF_divide_d34 : decode prog_13_method_17_code 34 = .ok (.return_, 1) := by decide +kernel
theorem kRF_reduce_d0 : decode prog_13_method_11_code 0 = .ok (.aload_n 0, 1) := by decide +kernel
theorem kRF_reduce_d1 : decode prog_13_method_11_code 1 = .ok (.getfield 10, 3) := by decide +kernel
theorem kRF_reduce_d4 : decode prog_13_method_11_code 4 = .ok (.iload_n 2, 1) := by decide +kernel
theorem kRF_reduce_d5 : decode prog_13_method_11_code 5 = .ok (.iload_n 3, 1) := by decide +kernel
theorem kRF_reduce_d6 : decode prog_13_method_11_code 6 = .ok (.invokevirtual 67, 3) := by decide +kernel
theorem kRF_reduce_d9 : decode prog_13_method_11_code 9 = .ok (.istore 4, 2) := by decide +kernel
theorem kRF_reduce_d11 : decode prog_13_method_11_code 11 = .ok (.iload_n 2, 1) := by decide +kernel
theorem kRF_reduce_d12 : decode prog_13_method_11_code 12 = .ok (.istore 5, 2) := by decide +kernel
theorem kRF_reduce_d14 : decode prog_13_method_11_code 14 = .ok (.iload_n 3, 1) := by decide +kernel
theorem kRF_reduce_d15 : decode prog_13_method_11_code 15 = .ok (.istore 6, 2) := by decide +kernel
theorem kRF_reduce_d17 : decode prog_13_method_11_code 17 = .ok (.aload_n 0, 1) := by decide +kernel
theorem kRF_reduce_d18 : decode prog_13_method_11_code 18 = .ok (.getfield 10, 3) := by decide +kernel
theorem kRF_reduce_d21 : decode prog_13_method_11_code 21 = .ok (.iload 4, 2) := by decide +kernel
theorem kRF_reduce_d23 : decode prog_13_method_11_code 23 = .ok (.invokevirtual 70, 3) := by decide +kernel
theorem kRF_reduce_d26 : decode prog_13_method_11_code 26 = .ok (.ifCond .ne 107, 3) := by decide +kernel
theorem kRF_reduce_d29 : decode prog_13_method_11_code 29 = .ok (.aload_n 0, 1) := by decide +kernel
theorem kRF_reduce_d30 : decode prog_13_method_11_code 30 = .ok (.getfield 10, 3) := by decide +kernel
theorem kRF_reduce_d33 : decode prog_13_method_11_code 33 = .ok (.iload_n 2, 1) := by decide +kernel
theorem kRF_reduce_d34 : decode prog_13_method_11_code 34 = .ok (.invokevirtual 74, 3) := by decide +kernel
theorem kRF_reduce_d37 : decode prog_13_method_11_code 37 = .ok (.ifCond .ge 30, 3) := by decide +kernel
theorem kRF_reduce_d40 : decode prog_13_method_11_code 40 = .ok (.aload_n 0, 1) := by decide +kernel
theorem kRF_reduce_d41 : decode prog_13_method_11_code 41 = .ok (.getfield 10, 3) := by decide +kernel
theorem kRF_reduce_d44 : decode prog_13_method_11_code 44 = .ok (.aload_n 0, 1) := by decide +kernel
theorem kRF_reduce_d45 : decode prog_13_method_11_code 45 = .ok (.getfield 10, 3) := by decide +kernel
theorem kRF_reduce_d48 : decode prog_13_method_11_code 48 = .ok (.aload_n 0, 1) := by decide +kernel
theorem kRF_reduce_d49 : decode prog_13_method_11_code 49 = .ok (.getfield 10, 3) := by decide +kernel
theorem kRF_reduce_d52 : decode prog_13_method_11_code 52 = .ok (.iload_n 2, 1) := by decide +kernel
theorem kRF_reduce_d53 : decode prog_13_method_11_code 53 = .ok (.invokevirtual 77, 3) := by decide +kernel
theorem kRF_reduce_d56 : decode prog_13_method_11_code 56 = .ok (.iload 4, 2) := by decide +kernel
theorem kRF_reduce_d58 : decode prog_13_method_11_code 58 = .ok (.invokevirtual 80, 3) := by decide +kernel
theorem kRF_reduce_d61 : decode prog_13_method_11_code 61 = .ok (.invokevirtual 83, 3) := by decide +kernel
theorem kRF_reduce_d64 : decode prog_13_method_11_code 64 = .ok (.goto 13, 3) := by decide +kernel
theorem kRF_reduce_d67 : decode prog_13_method_11_code 67 = .ok (.aload_n 0, 1) := by decide +kernel
theorem kRF_reduce_d68 : decode prog_13_method_11_code 68 = .ok (.getfield 10, 3) := by decide +kernel
theorem kRF_reduce_d71 : decode prog_13_method_11_code 71 = .ok (.iload_n 2, 1) := by decide +kernel
theorem kRF_reduce_d72 : decode prog_13_method_11_code 72 = .ok (.iload 4, 2) := by decide +kernel
theorem kRF_reduce_d74 : decode prog_13_method_11_code 74 = .ok (.invokevirtual 80, 3) := by decide +kernel
theorem kRF_reduce_d77 : decode prog_13_method_11_code 77 = .ok (.istore 7, 2) := by decide +kernel
theorem kRF_reduce_d79 : decode prog_13_method_11_code 79 = .ok (.iload 7, 2) := by decide +kernel
theorem kRF_reduce_d81 : decode prog_13_method_11_code 81 = .ok (.istore 5, 2) := by decide +kernel
theorem kRF_reduce_d83 : decode prog_13_method_11_code 83 = .ok (.aload_n 0, 1) := by decide +kernel
theorem kRF_reduce_d84 : decode prog_13_method_11_code 84 = .ok (.getfield 10, 3) := by decide +kernel
theorem kRF_reduce_d87 : decode prog_13_method_11_code 87 = .ok (.iload_n 3, 1) := by decide +kernel
theorem kRF_reduce_d88 : decode prog_13_method_11_code 88 = .ok (.invokevirtual 74, 3) := by decide +kernel
theorem kRF_reduce_d91 : decode prog_13_method_11_code 91 = .ok (.ifCond .ge 30, 3) := by decide +kernel
theorem kRF_reduce_d94 : decode prog_13_method_11_code 94 = .ok (.aload_n 0, 1) := by decide +kernel
theorem kRF_reduce_d95 : decode prog_13_method_11_code 95 = .ok (.getfield 10, 3) := by decide +kernel
theorem kRF_reduce_d98 : decode prog_13_method_11_code 98 = .ok (.aload_n 0, 1) := by decide +kernel
theorem kRF_reduce_d99 : decode prog_13_method_11_code 99 = .ok (.getfield 10, 3) := by decide +kernel
theorem kRF_reduce_d102 : decode prog_13_method_11_code 102 = .ok (.aload_n 0, 1) := by decide +kernel
theorem kRF_reduce_d103 : decode prog_13_method_11_code 103 = .ok (.getfield 10, 3) := by decide +kernel
theorem kRF_reduce_d106 : decode prog_13_method_11_code 106 = .ok (.iload_n 3, 1) := by decide +kernel
theorem kRF_reduce_d107 : decode prog_13_method_11_code 107 = .ok (.invokevirtual 77, 3) := by decide +kernel
theorem kRF_reduce_d110 : decode prog_13_method_11_code 110 = .ok (.iload 4, 2) := by decide +kernel
theorem kRF_reduce_d112 : decode prog_13_method_11_code 112 = .ok (.invokevirtual 80, 3) := by decide +kernel
theorem kRF_reduce_d115 : decode prog_13_method_11_code 115 = .ok (.invokevirtual 83, 3) := by decide +kernel
theorem kRF_reduce_d118 : decode prog_13_method_11_code 118 = .ok (.goto 13, 3) := by decide +kernel
theorem kRF_reduce_d121 : decode prog_13_method_11_code 121 = .ok (.aload_n 0, 1) := by decide +kernel
theorem kRF_reduce_d122 : decode prog_13_method_11_code 122 = .ok (.getfield 10, 3) := by decide +kernel
theorem kRF_reduce_d125 : decode prog_13_method_11_code 125 = .ok (.iload_n 3, 1) := by decide +kernel
theorem kRF_reduce_d126 : decode prog_13_method_11_code 126 = .ok (.iload 4, 2) := by decide +kernel
theorem kRF_reduce_d128 : decode prog_13_method_11_code 128 = .ok (.invokevirtual 80, 3) := by decide +kernel
theorem kRF_reduce_d131 : decode prog_13_method_11_code 131 = .ok (.istore 6, 2) := by decide +kernel
theorem kRF_reduce_d133 : decode prog_13_method_11_code 133 = .ok (.aload_n 0, 1) := by decide +kernel
theorem kRF_reduce_d134 : decode prog_13_method_11_code 134 = .ok (.getfield 10, 3) := by decide +kernel
theorem kRF_reduce_d137 : decode prog_13_method_11_code 137 = .ok (.iload 6, 2) := by decide +kernel
theorem kRF_reduce_d139 : decode prog_13_method_11_code 139 = .ok (.invokevirtual 74, 3) := by decide +kernel
theorem kRF_reduce_d142 : decode prog_13_method_11_code 142 = .ok (.ifCond .ge 7, 3) := by decide +kernel
theorem kRF_reduce_d145 : decode prog_13_method_11_code 145 = .ok (.iconst 1, 1) := by decide +kernel
theorem kRF_reduce_d146 : decode prog_13_method_11_code 146 = .ok (.goto 4, 3) := by decide +kernel
theorem kRF_reduce_d149 : decode prog_13_method_11_code 149 = .ok (.iconst 0, 1) := by decide +kernel
theorem kRF_reduce_d150 : decode prog_13_method_11_code 150 = .ok (.istore 7, 2) := by decide +kernel
theorem kRF_reduce_d152 : decode prog_13_method_11_code 152 = .ok (.iload 7, 2) := by decide +kernel
theorem kRF_reduce_d154 : decode prog_13_method_11_code 154 = .ok (.ifCond .eq 15, 3) := by decide +kernel
theorem kRF_reduce_d157 : decode prog_13_method_11_code 157 = .ok (.aload_n 0, 1) := by decide +kernel
theorem kRF_reduce_d158 : decode prog_13_method_11_code 158 = .ok (.getfield 10, 3) := by decide +kernel
theorem kRF_reduce_d161 : decode prog_13_method_11_code 161 = .ok (.iload 5, 2) := by decide +kernel
theorem kRF_reduce_d163 : decode prog_13_method_11_code 163 = .ok (.invokevirtual 83, 3) := by decide +kernel
theorem kRF_reduce_d166 : decode prog_13_method_11_code 166 = .ok (.goto 12, 3) := by decide +kernel
theorem kRF_reduce_d169 : decode prog_13_method_11_code 169 = .ok (.aload_n 0, 1) := by decide +kernel
theorem kRF_reduce_d170 : decode prog_13_method_11_code 170 = .ok (.getfield 10, 3) := by decide +kernel
theorem kRF_reduce_d173 : decode prog_13_method_11_code 173 = .ok (.iload 5, 2) := by decide +kernel
theorem kRF_reduce_d175 : decode prog_13_method_11_code 175 = .ok (.invokevirtual 47, 3) := by decide +kernel
theorem kRF_reduce_d178 : decode prog_13_method_11_code 178 = .ok (.istore 8, 2) := by decide +kernel
theorem kRF_reduce_d180 : decode prog_13_method_11_code 180 = .ok (.iload 7, 2) := by decide +kernel
theorem kRF_reduce_d182 : decode prog_13_method_11_code 182 = .ok (.ifCond .eq 15, 3) := by decide +kernel
theorem kRF_reduce_d185 : decode prog_13_method_11_code 185 = .ok (.aload_n 0, 1) := by decide +kernel
theorem kRF_reduce_d186 : decode prog_13_method_11_code 186 = .ok (.getfield 10, 3) := by decide +kernel
theorem kRF_reduce_d189 : decode prog_13_method_11_code 189 = .ok (.iload 6, 2) := by decide +kernel
theorem kRF_reduce_d191 : decode prog_13_method_11_code 191 = .ok (.invokevirtual 83, 3) := by decide +kernel
theorem kRF_reduce_d194 : decode prog_13_method_11_code 194 = .ok (.goto 12, 3) := by decide +kernel
theorem kRF_reduce_d197 : decode prog_13_method_11_code 197 = .ok (.aload_n 0, 1) := by decide +kernel
theorem kRF_reduce_d198 : decode prog_13_method_11_code 198 = .ok (.getfield 10, 3) := by decide +kernel
theorem kRF_reduce_d201 : decode prog_13_method_11_code 201 = .ok (.iload 6, 2) := by decide +kernel
theorem kRF_reduce_d203 : decode prog_13_method_11_code 203 = .ok (.invokevirtual 47, 3) := by decide +kernel
theorem kRF_reduce_d206 : decode prog_13_method_11_code 206 = .ok (.istore 9, 2) := by decide +kernel
theorem kRF_reduce_d208 : decode prog_13_method_11_code 208 = .ok (.aload_n 0, 1) := by decide +kernel
theorem kRF_reduce_d209 : decode prog_13_method_11_code 209 = .ok (.iload_n 1, 1) := by decide +kernel
theorem kRF_reduce_d210 : decode prog_13_method_11_code 210 = .ok (.iload 8, 2) := by decide +kernel
theorem kRF_reduce_d212 : decode prog_13_method_11_code 212 = .ok (.iload 9, 2) := by decide +kernel
theorem kRF_reduce_d214 : decode prog_13_method_11_code 214 = .ok (.invokevirtual 86, 3) := by decide +kernel
theorem kRF_reduce_d217 : decode prog_13_method_11_code 217 = .ok (.return_, 1) := by decide +kernel
theorem kRF_settle_d0 : decode prog_13_method_12_code 0 = .ok (.aload_n 0, 1) := by decide +kernel
theorem kRF_settle_d1 : decode prog_13_method_12_code 1 = .ok (.getfield 10, 3) := by decide +kernel
theorem kRF_settle_d4 : decode prog_13_method_12_code 4 = .ok (.iload_n 3, 1) := by decide +kernel
theorem kRF_settle_d5 : decode prog_13_method_12_code 5 = .ok (.invokevirtual 70, 3) := by decide +kernel
theorem kRF_settle_d8 : decode prog_13_method_12_code 8 = .ok (.istore 4, 2) := by decide +kernel
theorem kRF_settle_d10 : decode prog_13_method_12_code 10 = .ok (.aload_n 0, 1) := by decide +kernel
theorem kRF_settle_d11 : decode prog_13_method_12_code 11 = .ok (.aload_n 0, 1) := by decide +kernel
theorem kRF_settle_d12 : decode prog_13_method_12_code 12 = .ok (.getfield 10, 3) := by decide +kernel
theorem kRF_settle_d15 : decode prog_13_method_12_code 15 = .ok (.iload_n 2, 1) := by decide +kernel
theorem kRF_settle_d16 : decode prog_13_method_12_code 16 = .ok (.iload_n 1, 1) := by decide +kernel
theorem kRF_settle_d17 : decode prog_13_method_12_code 17 = .ok (.invokevirtual 90, 3) := by decide +kernel
theorem kRF_settle_d20 : decode prog_13_method_12_code 20 = .ok (.putfield 37, 3) := by decide +kernel
theorem kRF_settle_d23 : decode prog_13_method_12_code 23 = .ok (.aload_n 0, 1) := by decide +kernel
theorem kRF_settle_d24 : decode prog_13_method_12_code 24 = .ok (.getfield 37, 3) := by decide +kernel
theorem kRF_settle_d27 : decode prog_13_method_12_code 27 = .ok (.ifCond .ne 7, 3) := by decide +kernel
theorem kRF_settle_d30 : decode prog_13_method_12_code 30 = .ok (.iload_n 1, 1) := by decide +kernel
theorem kRF_settle_d31 : decode prog_13_method_12_code 31 = .ok (.goto 21, 3) := by decide +kernel
theorem kRF_settle_d34 : decode prog_13_method_12_code 34 = .ok (.aload_n 0, 1) := by decide +kernel
theorem kRF_settle_d35 : decode prog_13_method_12_code 35 = .ok (.getfield 37, 3) := by decide +kernel
theorem kRF_settle_d38 : decode prog_13_method_12_code 38 = .ok (.aload_n 0, 1) := by decide +kernel
theorem kRF_settle_d39 : decode prog_13_method_12_code 39 = .ok (.getfield 10, 3) := by decide +kernel
theorem kRF_settle_d42 : decode prog_13_method_12_code 42 = .ok (.aload_n 0, 1) := by decide +kernel
theorem kRF_settle_d43 : decode prog_13_method_12_code 43 = .ok (.getfield 37, 3) := by decide +kernel
theorem kRF_settle_d46 : decode prog_13_method_12_code 46 = .ok (.invokevirtual 93, 3) := by decide +kernel
theorem kRF_settle_d49 : decode prog_13_method_12_code 49 = .ok (.iadd, 1) := by decide +kernel
theorem kRF_settle_d50 : decode prog_13_method_12_code 50 = .ok (.iconst 1, 1) := by decide +kernel
theorem kRF_settle_d51 : decode prog_13_method_12_code 51 = .ok (.iadd, 1) := by decide +kernel
theorem kRF_settle_d52 : decode prog_13_method_12_code 52 = .ok (.istore 5, 2) := by decide +kernel
theorem kRF_settle_d54 : decode prog_13_method_12_code 54 = .ok (.iload 4, 2) := by decide +kernel
theorem kRF_settle_d56 : decode prog_13_method_12_code 56 = .ok (.ifCond .eq 20, 3) := by decide +kernel
theorem kRF_settle_d59 : decode prog_13_method_12_code 59 = .ok (.aload_n 0, 1) := by decide +kernel
theorem kRF_settle_d60 : decode prog_13_method_12_code 60 = .ok (.iconst 1, 1) := by decide +kernel
theorem kRF_settle_d61 : decode prog_13_method_12_code 61 = .ok (.putfield 40, 3) := by decide +kernel
theorem kRF_settle_d64 : decode prog_13_method_12_code 64 = .ok (.aload_n 0, 1) := by decide +kernel
theorem kRF_settle_d65 : decode prog_13_method_12_code 65 = .ok (.getfield 10, 3) := by decide +kernel
theorem kRF_settle_d68 : decode prog_13_method_12_code 68 = .ok (.iload 5, 2) := by decide +kernel
theorem kRF_settle_d70 : decode prog_13_method_12_code 70 = .ok (.putfield 26, 3) := by decide +kernel
theorem kRF_settle_d73 : decode prog_13_method_12_code 73 = .ok (.goto 17, 3) := by decide +kernel
theorem kRF_settle_d76 : decode prog_13_method_12_code 76 = .ok (.aload_n 0, 1) := by decide +kernel
theorem kRF_settle_d77 : decode prog_13_method_12_code 77 = .ok (.aload_n 0, 1) := by decide +kernel
theorem kRF_settle_d78 : decode prog_13_method_12_code 78 = .ok (.getfield 10, 3) := by decide +kernel
theorem kRF_settle_d81 : decode prog_13_method_12_code 81 = .ok (.iload_n 3, 1) := by decide +kernel
theorem kRF_settle_d82 : decode prog_13_method_12_code 82 = .ok (.iload 5, 2) := by decide +kernel
theorem kRF_settle_d84 : decode prog_13_method_12_code 84 = .ok (.invokevirtual 90, 3) := by decide +kernel
theorem kRF_settle_d87 : decode prog_13_method_12_code 87 = .ok (.putfield 40, 3) := by decide +kernel
theorem kRF_settle_d90 : decode prog_13_method_12_code 90 = .ok (.return_, 1) := by decide +kernel
theorem kRF_same_d0 : decode prog_13_method_9_code 0 = .ok (.aload_n 0, 1) := by decide +kernel
theorem kRF_same_d1 : decode prog_13_method_9_code 1 = .ok (.aload_n 0, 1) := by decide +kernel
theorem kRF_same_d2 : decode prog_13_method_9_code 2 = .ok (.getfield 10, 3) := by decide +kernel
theorem kRF_same_d5 : decode prog_13_method_9_code 5 = .ok (.aload_n 0, 1) := by decide +kernel
theorem kRF_same_d6 : decode prog_13_method_9_code 6 = .ok (.iload_n 3, 1) := by decide +kernel
theorem kRF_same_d7 : decode prog_13_method_9_code 7 = .ok (.iload 4, 2) := by decide +kernel
theorem kRF_same_d9 : decode prog_13_method_9_code 9 = .ok (.invokevirtual 43, 3) := by decide +kernel
theorem kRF_same_d12 : decode prog_13_method_9_code 12 = .ok (.invokevirtual 47, 3) := by decide +kernel
theorem kRF_same_d15 : decode prog_13_method_9_code 15 = .ok (.putfield 37, 3) := by decide +kernel
theorem kRF_same_d18 : decode prog_13_method_9_code 18 = .ok (.aload_n 0, 1) := by decide +kernel
theorem kRF_same_d19 : decode prog_13_method_9_code 19 = .ok (.aload_n 0, 1) := by decide +kernel
theorem kRF_same_d20 : decode prog_13_method_9_code 20 = .ok (.iload_n 3, 1) := by decide +kernel
theorem kRF_same_d21 : decode prog_13_method_9_code 21 = .ok (.iload 4, 2) := by decide +kernel
theorem kRF_same_d23 : decode prog_13_method_9_code 23 = .ok (.invokevirtual 51, 3) := by decide +kernel
theorem kRF_same_d26 : decode prog_13_method_9_code 26 = .ok (.iconst 1, 1) := by decide +kernel
theorem kRF_same_d27 : decode prog_13_method_9_code 27 = .ok (.if_icmp .ne 7, 3) := by decide +kernel
theorem kRF_same_d30 : decode prog_13_method_9_code 30 = .ok (.iconst 1, 1) := by decide +kernel
theorem kRF_same_d31 : decode prog_13_method_9_code 31 = .ok (.goto 17, 3) := by decide +kernel
theorem kRF_same_d34 : decode prog_13_method_9_code 34 = .ok (.aload_n 0, 1) := by decide +kernel
theorem kRF_same_d35 : decode prog_13_method_9_code 35 = .ok (.getfield 10, 3) := by decide +kernel
theorem kRF_same_d38 : decode prog_13_method_9_code 38 = .ok (.aload_n 0, 1) := by decide +kernel
theorem kRF_same_d39 : decode prog_13_method_9_code 39 = .ok (.iload_n 3, 1) := by decide +kernel
theorem kRF_same_d40 : decode prog_13_method_9_code 40 = .ok (.iload 4, 2) := by decide +kernel
theorem kRF_same_d42 : decode prog_13_method_9_code 42 = .ok (.invokevirtual 51, 3) := by decide +kernel
theorem kRF_same_d45 : decode prog_13_method_9_code 45 = .ok (.invokevirtual 47, 3) := by decide +kernel
theorem kRF_same_d48 : decode prog_13_method_9_code 48 = .ok (.putfield 40, 3) := by decide +kernel
theorem kRF_same_d51 : decode prog_13_method_9_code 51 = .ok (.aload_n 0, 1) := by decide +kernel
theorem kRF_same_d52 : decode prog_13_method_9_code 52 = .ok (.iload_n 1, 1) := by decide +kernel
theorem kRF_same_d53 : decode prog_13_method_9_code 53 = .ok (.iload_n 2, 1) := by decide +kernel
theorem kRF_same_d54 : decode prog_13_method_9_code 54 = .ok (.invokevirtual 54, 3) := by decide +kernel
theorem kRF_same_d57 : decode prog_13_method_9_code 57 = .ok (.return_, 1) := by decide +kernel
theorem kRF_unit_d0 : decode prog_13_method_21_code 0 = .ok (.aload_n 0, 1) := by decide +kernel
theorem kRF_unit_d1 : decode prog_13_method_21_code 1 = .ok (.iload_n 1, 1) := by decide +kernel
theorem kRF_unit_d2 : decode prog_13_method_21_code 2 = .ok (.iload_n 1, 1) := by decide +kernel
theorem kRF_unit_d3 : decode prog_13_method_21_code 3 = .ok (.invokevirtual 121, 3) := by decide +kernel
theorem kRF_unit_d6 : decode prog_13_method_21_code 6 = .ok (.istore_n 2, 1) := by decide +kernel
theorem kRF_unit_d7 : decode prog_13_method_21_code 7 = .ok (.iconst 0, 1) := by decide +kernel
theorem kRF_unit_d8 : decode prog_13_method_21_code 8 = .ok (.istore_n 3, 1) := by decide +kernel
theorem kRF_unit_d9 : decode prog_13_method_21_code 9 = .ok (.iload_n 3, 1) := by decide +kernel
theorem kRF_unit_d10 : decode prog_13_method_21_code 10 = .ok (.iload_n 1, 1) := by decide +kernel
theorem kRF_unit_d11 : decode prog_13_method_21_code 11 = .ok (.iload_n 1, 1) := by decide +kernel
theorem kRF_unit_d12 : decode prog_13_method_21_code 12 = .ok (.imul, 1) := by decide +kernel
theorem kRF_unit_d13 : decode prog_13_method_21_code 13 = .ok (.if_icmp .ge 33, 3) := by decide +kernel
theorem kRF_unit_d16 : decode prog_13_method_21_code 16 = .ok (.aload_n 0, 1) := by decide +kernel
theorem kRF_unit_d17 : decode prog_13_method_21_code 17 = .ok (.iload_n 3, 1) := by decide +kernel
theorem kRF_unit_d18 : decode prog_13_method_21_code 18 = .ok (.iload_n 1, 1) := by decide +kernel
theorem kRF_unit_d19 : decode prog_13_method_21_code 19 = .ok (.idiv, 1) := by decide +kernel
theorem kRF_unit_d20 : decode prog_13_method_21_code 20 = .ok (.iload_n 3, 1) := by decide +kernel
theorem kRF_unit_d21 : decode prog_13_method_21_code 21 = .ok (.iload_n 1, 1) := by decide +kernel
theorem kRF_unit_d22 : decode prog_13_method_21_code 22 = .ok (.irem, 1) := by decide +kernel
theorem kRF_unit_d23 : decode prog_13_method_21_code 23 = .ok (.if_icmp .ne 7, 3) := by decide +kernel
theorem kRF_unit_d26 : decode prog_13_method_21_code 26 = .ok (.lconst 1, 1) := by decide +kernel
theorem kRF_unit_d27 : decode prog_13_method_21_code 27 = .ok (.goto 4, 3) := by decide +kernel
theorem kRF_unit_d30 : decode prog_13_method_21_code 30 = .ok (.lconst 0, 1) := by decide +kernel
theorem kRF_unit_d31 : decode prog_13_method_21_code 31 = .ok (.invokevirtual 128, 3) := by decide +kernel
theorem kRF_unit_d34 : decode prog_13_method_21_code 34 = .ok (.aload_n 0, 1) := by decide +kernel
theorem kRF_unit_d35 : decode prog_13_method_21_code 35 = .ok (.iload_n 2, 1) := by decide +kernel
theorem kRF_unit_d36 : decode prog_13_method_21_code 36 = .ok (.iload_n 3, 1) := by decide +kernel
theorem kRF_unit_d37 : decode prog_13_method_21_code 37 = .ok (.invokevirtual 54, 3) := by decide +kernel
theorem kRF_unit_d40 : decode prog_13_method_21_code 40 = .ok (.iinc 3 1, 3) := by decide +kernel
theorem kRF_unit_d43 : decode prog_13_method_21_code 43 = .ok (.goto (-34), 3) := by decide +kernel
theorem kRF_unit_d46 : decode prog_13_method_21_code 46 = .ok (.iload_n 2, 1) := by decide +kernel
theorem kRF_unit_d47 : decode prog_13_method_21_code 47 = .ok (.ireturn, 1) := by decide +kernel
theorem kRF_sum_d0 : decode prog_13_method_24_code 0 = .ok (.aload_n 0, 1) := by decide +kernel
theorem kRF_sum_d1 : decode prog_13_method_24_code 1 = .ok (.aload_n 0, 1) := by decide +kernel
theorem kRF_sum_d2 : decode prog_13_method_24_code 2 = .ok (.iload_n 1, 1) := by decide +kernel
theorem kRF_sum_d3 : decode prog_13_method_24_code 3 = .ok (.invokevirtual 118, 3) := by decide +kernel
theorem kRF_sum_d6 : decode prog_13_method_24_code 6 = .ok (.aload_n 0, 1) := by decide +kernel
theorem kRF_sum_d7 : decode prog_13_method_24_code 7 = .ok (.iload_n 1, 1) := by decide +kernel
theorem kRF_sum_d8 : decode prog_13_method_24_code 8 = .ok (.invokevirtual 112, 3) := by decide +kernel
theorem kRF_sum_d11 : decode prog_13_method_24_code 11 = .ok (.invokevirtual 121, 3) := by decide +kernel
theorem kRF_sum_d14 : decode prog_13_method_24_code 14 = .ok (.istore 4, 2) := by decide +kernel
theorem kRF_sum_d16 : decode prog_13_method_24_code 16 = .ok (.iconst 0, 1) := by decide +kernel
theorem kRF_sum_d17 : decode prog_13_method_24_code 17 = .ok (.istore 5, 2) := by decide +kernel
theorem kRF_sum_d19 : decode prog_13_method_24_code 19 = .ok (.iload 5, 2) := by decide +kernel
theorem kRF_sum_d21 : decode prog_13_method_24_code 21 = .ok (.aload_n 0, 1) := by decide +kernel
theorem kRF_sum_d22 : decode prog_13_method_24_code 22 = .ok (.iload_n 1, 1) := by decide +kernel
theorem kRF_sum_d23 : decode prog_13_method_24_code 23 = .ok (.invokevirtual 64, 3) := by decide +kernel
theorem kRF_sum_d26 : decode prog_13_method_24_code 26 = .ok (.if_icmp .ge 50, 3) := by decide +kernel
theorem kRF_sum_d29 : decode prog_13_method_24_code 29 = .ok (.aload_n 0, 1) := by decide +kernel
theorem kRF_sum_d30 : decode prog_13_method_24_code 30 = .ok (.aload_n 0, 1) := by decide +kernel
theorem kRF_sum_d31 : decode prog_13_method_24_code 31 = .ok (.iload_n 1, 1) := by decide +kernel
theorem kRF_sum_d32 : decode prog_13_method_24_code 32 = .ok (.iload 5, 2) := by decide +kernel
theorem kRF_sum_d34 : decode prog_13_method_24_code 34 = .ok (.invokevirtual 43, 3) := by decide +kernel
theorem kRF_sum_d37 : decode prog_13_method_24_code 37 = .ok (.aload_n 0, 1) := by decide +kernel
theorem kRF_sum_d38 : decode prog_13_method_24_code 38 = .ok (.iload_n 1, 1) := by decide +kernel
theorem kRF_sum_d39 : decode prog_13_method_24_code 39 = .ok (.iload 5, 2) := by decide +kernel
theorem kRF_sum_d41 : decode prog_13_method_24_code 41 = .ok (.invokevirtual 51, 3) := by decide +kernel
theorem kRF_sum_d44 : decode prog_13_method_24_code 44 = .ok (.aload_n 0, 1) := by decide +kernel
theorem kRF_sum_d45 : decode prog_13_method_24_code 45 = .ok (.iload_n 2, 1) := by decide +kernel
theorem kRF_sum_d46 : decode prog_13_method_24_code 46 = .ok (.iload 5, 2) := by decide +kernel
theorem kRF_sum_d48 : decode prog_13_method_24_code 48 = .ok (.invokevirtual 43, 3) := by decide +kernel
theorem kRF_sum_d51 : decode prog_13_method_24_code 51 = .ok (.aload_n 0, 1) := by decide +kernel
theorem kRF_sum_d52 : decode prog_13_method_24_code 52 = .ok (.iload_n 2, 1) := by decide +kernel
theorem kRF_sum_d53 : decode prog_13_method_24_code 53 = .ok (.iload 5, 2) := by decide +kernel
theorem kRF_sum_d55 : decode prog_13_method_24_code 55 = .ok (.invokevirtual 51, 3) := by decide +kernel
theorem kRF_sum_d58 : decode prog_13_method_24_code 58 = .ok (.iload_n 3, 1) := by decide +kernel
theorem kRF_sum_d59 : decode prog_13_method_24_code 59 = .ok (.invokevirtual 132, 3) := by decide +kernel
theorem kRF_sum_d62 : decode prog_13_method_24_code 62 = .ok (.aload_n 0, 1) := by decide +kernel
theorem kRF_sum_d63 : decode prog_13_method_24_code 63 = .ok (.iload 4, 2) := by decide +kernel
theorem kRF_sum_d65 : decode prog_13_method_24_code 65 = .ok (.iload 5, 2) := by decide +kernel
theorem kRF_sum_d67 : decode prog_13_method_24_code 67 = .ok (.invokevirtual 54, 3) := by decide +kernel
theorem kRF_sum_d70 : decode prog_13_method_24_code 70 = .ok (.iinc 5 1, 3) := by decide +kernel
theorem kRF_sum_d73 : decode prog_13_method_24_code 73 = .ok (.goto (-54), 3) := by decide +kernel
theorem kRF_sum_d76 : decode prog_13_method_24_code 76 = .ok (.iload 4, 2) := by decide +kernel
theorem kRF_sum_d78 : decode prog_13_method_24_code 78 = .ok (.ireturn, 1) := by decide +kernel
theorem kRF_add_d0 : decode prog_13_method_14_code 0 = .ok (.aload_n 0, 1) := by decide +kernel
theorem kRF_add_d1 : decode prog_13_method_14_code 1 = .ok (.getfield 10, 3) := by decide +kernel
theorem kRF_add_d4 : decode prog_13_method_14_code 4 = .ok (.getfield 26, 3) := by decide +kernel
theorem kRF_add_d7 : decode prog_13_method_14_code 7 = .ok (.istore 6, 2) := by decide +kernel
theorem kRF_add_d9 : decode prog_13_method_14_code 9 = .ok (.iload_n 2, 1) := by decide +kernel
theorem kRF_add_d10 : decode prog_13_method_14_code 10 = .ok (.iconst 1, 1) := by decide +kernel
theorem kRF_add_d11 : decode prog_13_method_14_code 11 = .ok (.if_icmp .ne 45, 3) := by decide +kernel
theorem kRF_add_d14 : decode prog_13_method_14_code 14 = .ok (.iload 4, 2) := by decide +kernel
theorem kRF_add_d16 : decode prog_13_method_14_code 16 = .ok (.iconst 1, 1) := by decide +kernel
theorem kRF_add_d17 : decode prog_13_method_14_code 17 = .ok (.if_icmp .ne 39, 3) := by decide +kernel
theorem kRF_add_d20 : decode prog_13_method_14_code 20 = .ok (.aload_n 0, 1) := by decide +kernel
theorem kRF_add_d21 : decode prog_13_method_14_code 21 = .ok (.iload 5, 2) := by decide +kernel
theorem kRF_add_d23 : decode prog_13_method_14_code 23 = .ok (.ifCond .eq 15, 3) := by decide +kernel
theorem kRF_add_d26 : decode prog_13_method_14_code 26 = .ok (.aload_n 0, 1) := by decide +kernel
theorem kRF_add_d27 : decode prog_13_method_14_code 27 = .ok (.getfield 10, 3) := by decide +kernel
theorem kRF_add_d30 : decode prog_13_method_14_code 30 = .ok (.iload_n 1, 1) := by decide +kernel
theorem kRF_add_d31 : decode prog_13_method_14_code 31 = .ok (.iload_n 3, 1) := by decide +kernel
theorem kRF_add_d32 : decode prog_13_method_14_code 32 = .ok (.invokevirtual 100, 3) := by decide +kernel
theorem kRF_add_d35 : decode prog_13_method_14_code 35 = .ok (.goto 12, 3) := by decide +kernel
theorem kRF_add_d38 : decode prog_13_method_14_code 38 = .ok (.aload_n 0, 1) := by decide +kernel
theorem kRF_add_d39 : decode prog_13_method_14_code 39 = .ok (.getfield 10, 3) := by decide +kernel
theorem kRF_add_d42 : decode prog_13_method_14_code 42 = .ok (.iload_n 1, 1) := by decide +kernel
theorem kRF_add_d43 : decode prog_13_method_14_code 43 = .ok (.iload_n 3, 1) := by decide +kernel
theorem kRF_add_d44 : decode prog_13_method_14_code 44 = .ok (.invokevirtual 103, 3) := by decide +kernel
theorem kRF_add_d47 : decode prog_13_method_14_code 47 = .ok (.putfield 37, 3) := by decide +kernel
theorem kRF_add_d50 : decode prog_13_method_14_code 50 = .ok (.aload_n 0, 1) := by decide +kernel
theorem kRF_add_d51 : decode prog_13_method_14_code 51 = .ok (.iconst 1, 1) := by decide +kernel
theorem kRF_add_d52 : decode prog_13_method_14_code 52 = .ok (.putfield 40, 3) := by decide +kernel
theorem kRF_add_d55 : decode prog_13_method_14_code 55 = .ok (.return_, 1) := by decide +kernel
theorem kRF_add_d56 : decode prog_13_method_14_code 56 = .ok (.aload_n 0, 1) := by decide +kernel
theorem kRF_add_d57 : decode prog_13_method_14_code 57 = .ok (.getfield 10, 3) := by decide +kernel
theorem kRF_add_d60 : decode prog_13_method_14_code 60 = .ok (.iload_n 1, 1) := by decide +kernel
theorem kRF_add_d61 : decode prog_13_method_14_code 61 = .ok (.iload 4, 2) := by decide +kernel
theorem kRF_add_d63 : decode prog_13_method_14_code 63 = .ok (.invokevirtual 106, 3) := by decide +kernel
theorem kRF_add_d66 : decode prog_13_method_14_code 66 = .ok (.istore 7, 2) := by decide +kernel
theorem kRF_add_d68 : decode prog_13_method_14_code 68 = .ok (.aload_n 0, 1) := by decide +kernel
theorem kRF_add_d69 : decode prog_13_method_14_code 69 = .ok (.getfield 10, 3) := by decide +kernel
theorem kRF_add_d72 : decode prog_13_method_14_code 72 = .ok (.iload_n 3, 1) := by decide +kernel
theorem kRF_add_d73 : decode prog_13_method_14_code 73 = .ok (.iload_n 2, 1) := by decide +kernel
theorem kRF_add_d74 : decode prog_13_method_14_code 74 = .ok (.invokevirtual 106, 3) := by decide +kernel
theorem kRF_add_d77 : decode prog_13_method_14_code 77 = .ok (.istore 8, 2) := by decide +kernel
theorem kRF_add_d79 : decode prog_13_method_14_code 79 = .ok (.aload_n 0, 1) := by decide +kernel
theorem kRF_add_d80 : decode prog_13_method_14_code 80 = .ok (.iload 6, 2) := by decide +kernel
theorem kRF_add_d82 : decode prog_13_method_14_code 82 = .ok (.iload 5, 2) := by decide +kernel
theorem kRF_add_d84 : decode prog_13_method_14_code 84 = .ok (.ifCond .eq 17, 3) := by decide +kernel
theorem kRF_add_d87 : decode prog_13_method_14_code 87 = .ok (.aload_n 0, 1) := by decide +kernel
theorem kRF_add_d88 : decode prog_13_method_14_code 88 = .ok (.getfield 10, 3) := by decide +kernel
theorem kRF_add_d91 : decode prog_13_method_14_code 91 = .ok (.iload 7, 2) := by decide +kernel
theorem kRF_add_d93 : decode prog_13_method_14_code 93 = .ok (.iload 8, 2) := by decide +kernel
theorem kRF_add_d95 : decode prog_13_method_14_code 95 = .ok (.invokevirtual 100, 3) := by decide +kernel
theorem kRF_add_d98 : decode prog_13_method_14_code 98 = .ok (.goto 14, 3) := by decide +kernel
theorem kRF_add_d101 : decode prog_13_method_14_code 101 = .ok (.aload_n 0, 1) := by decide +kernel
theorem kRF_add_d102 : decode prog_13_method_14_code 102 = .ok (.getfield 10, 3) := by decide +kernel
theorem kRF_add_d105 : decode prog_13_method_14_code 105 = .ok (.iload 7, 2) := by decide +kernel
theorem kRF_add_d107 : decode prog_13_method_14_code 107 = .ok (.iload 8, 2) := by decide +kernel
theorem kRF_add_d109 : decode prog_13_method_14_code 109 = .ok (.invokevirtual 103, 3) := by decide +kernel
theorem kRF_add_d112 : decode prog_13_method_14_code 112 = .ok (.aload_n 0, 1) := by decide +kernel
theorem kRF_add_d113 : decode prog_13_method_14_code 113 = .ok (.getfield 10, 3) := by decide +kernel
theorem kRF_add_d116 : decode prog_13_method_14_code 116 = .ok (.iload_n 2, 1) := by decide +kernel
theorem kRF_add_d117 : decode prog_13_method_14_code 117 = .ok (.iload 4, 2) := by decide +kernel
theorem kRF_add_d119 : decode prog_13_method_14_code 119 = .ok (.invokevirtual 106, 3) := by decide +kernel
theorem kRF_add_d122 : decode prog_13_method_14_code 122 = .ok (.invokevirtual 109, 3) := by decide +kernel
theorem kRF_add_d125 : decode prog_13_method_14_code 125 = .ok (.return_, 1) := by decide +kernel
theorem kRF_product_d0 : decode prog_13_method_25_code 0 = .ok (.aload_n 0, 1) := by decide +kernel
theorem kRF_product_d1 : decode prog_13_method_25_code 1 = .ok (.getfield 10, 3) := by decide +kernel
theorem kRF_product_d4 : decode prog_13_method_25_code 4 = .ok (.getfield 26, 3) := by decide +kernel
theorem kRF_product_d7 : decode prog_13_method_25_code 7 = .ok (.istore_n 3, 1) := by decide +kernel
theorem kRF_product_d8 : decode prog_13_method_25_code 8 = .ok (.aload_n 0, 1) := by decide +kernel
theorem kRF_product_d9 : decode prog_13_method_25_code 9 = .ok (.getfield 30, 3) := by decide +kernel
theorem kRF_product_d12 : decode prog_13_method_25_code 12 = .ok (.istore 4, 2) := by decide +kernel
theorem kRF_product_d14 : decode prog_13_method_25_code 14 = .ok (.aload_n 0, 1) := by decide +kernel
theorem kRF_product_d15 : decode prog_13_method_25_code 15 = .ok (.iload_n 2, 1) := by decide +kernel
theorem kRF_product_d16 : decode prog_13_method_25_code 16 = .ok (.invokevirtual 135, 3) := by decide +kernel
theorem kRF_product_d19 : decode prog_13_method_25_code 19 = .ok (.istore 5, 2) := by decide +kernel
theorem kRF_product_d21 : decode prog_13_method_25_code 21 = .ok (.aload_n 0, 1) := by decide +kernel
theorem kRF_product_d22 : decode prog_13_method_25_code 22 = .ok (.getfield 10, 3) := by decide +kernel
theorem kRF_product_d25 : decode prog_13_method_25_code 25 = .ok (.getfield 26, 3) := by decide +kernel
theorem kRF_product_d28 : decode prog_13_method_25_code 28 = .ok (.istore 6, 2) := by decide +kernel
theorem kRF_product_d30 : decode prog_13_method_25_code 30 = .ok (.aload_n 0, 1) := by decide +kernel
theorem kRF_product_d31 : decode prog_13_method_25_code 31 = .ok (.aload_n 0, 1) := by decide +kernel
theorem kRF_product_d32 : decode prog_13_method_25_code 32 = .ok (.iload_n 1, 1) := by decide +kernel
theorem kRF_product_d33 : decode prog_13_method_25_code 33 = .ok (.invokevirtual 118, 3) := by decide +kernel
theorem kRF_product_d36 : decode prog_13_method_25_code 36 = .ok (.aload_n 0, 1) := by decide +kernel
theorem kRF_product_d37 : decode prog_13_method_25_code 37 = .ok (.iload_n 2, 1) := by decide +kernel
theorem kRF_product_d38 : decode prog_13_method_25_code 38 = .ok (.invokevirtual 112, 3) := by decide +kernel
theorem kRF_product_d41 : decode prog_13_method_25_code 41 = .ok (.invokevirtual 121, 3) := by decide +kernel
theorem kRF_product_d44 : decode prog_13_method_25_code 44 = .ok (.istore 7, 2) := by decide +kernel
theorem kRF_product_d46 : decode prog_13_method_25_code 46 = .ok (.iconst 0, 1) := by decide +kernel
theorem kRF_product_d47 : decode prog_13_method_25_code 47 = .ok (.istore 8, 2) := by decide +kernel
theorem kRF_product_d49 : decode prog_13_method_25_code 49 = .ok (.iload 8, 2) := by decide +kernel
theorem kRF_product_d51 : decode prog_13_method_25_code 51 = .ok (.aload_n 0, 1) := by decide +kernel
theorem kRF_product_d52 : decode prog_13_method_25_code 52 = .ok (.iload 7, 2) := by decide +kernel
theorem kRF_product_d54 : decode prog_13_method_25_code 54 = .ok (.invokevirtual 64, 3) := by decide +kernel
theorem kRF_product_d57 : decode prog_13_method_25_code 57 = .ok (.if_icmp .ge 40, 3) := by decide +kernel
theorem kRF_product_d60 : decode prog_13_method_25_code 60 = .ok (.aload_n 0, 1) := by decide +kernel
theorem kRF_product_d61 : decode prog_13_method_25_code 61 = .ok (.iload_n 1, 1) := by decide +kernel
theorem kRF_product_d62 : decode prog_13_method_25_code 62 = .ok (.iload 8, 2) := by decide +kernel
theorem kRF_product_d64 : decode prog_13_method_25_code 64 = .ok (.aload_n 0, 1) := by decide +kernel
theorem kRF_product_d65 : decode prog_13_method_25_code 65 = .ok (.iload_n 2, 1) := by decide +kernel
theorem kRF_product_d66 : decode prog_13_method_25_code 66 = .ok (.invokevirtual 112, 3) := by decide +kernel
theorem kRF_product_d69 : decode prog_13_method_25_code 69 = .ok (.idiv, 1) := by decide +kernel
theorem kRF_product_d70 : decode prog_13_method_25_code 70 = .ok (.iload 5, 2) := by decide +kernel
theorem kRF_product_d72 : decode prog_13_method_25_code 72 = .ok (.iload 8, 2) := by decide +kernel
theorem kRF_product_d74 : decode prog_13_method_25_code 74 = .ok (.aload_n 0, 1) := by decide +kernel
theorem kRF_product_d75 : decode prog_13_method_25_code 75 = .ok (.iload_n 2, 1) := by decide +kernel
theorem kRF_product_d76 : decode prog_13_method_25_code 76 = .ok (.invokevirtual 112, 3) := by decide +kernel
theorem kRF_product_d79 : decode prog_13_method_25_code 79 = .ok (.irem, 1) := by decide +kernel
theorem kRF_product_d80 : decode prog_13_method_25_code 80 = .ok (.invokevirtual 138, 3) := by decide +kernel
theorem kRF_product_d83 : decode prog_13_method_25_code 83 = .ok (.aload_n 0, 1) := by decide +kernel
theorem kRF_product_d84 : decode prog_13_method_25_code 84 = .ok (.iload 7, 2) := by decide +kernel
theorem kRF_product_d86 : decode prog_13_method_25_code 86 = .ok (.iload 8, 2) := by decide +kernel
theorem kRF_product_d88 : decode prog_13_method_25_code 88 = .ok (.invokevirtual 54, 3) := by decide +kernel
theorem kRF_product_d91 : decode prog_13_method_25_code 91 = .ok (.iinc 8 1, 3) := by decide +kernel
theorem kRF_product_d94 : decode prog_13_method_25_code 94 = .ok (.goto (-45), 3) := by decide +kernel
theorem kRF_product_d97 : decode prog_13_method_25_code 97 = .ok (.aload_n 0, 1) := by decide +kernel
theorem kRF_product_d98 : decode prog_13_method_25_code 98 = .ok (.iload_n 3, 1) := by decide +kernel
theorem kRF_product_d99 : decode prog_13_method_25_code 99 = .ok (.iload 4, 2) := by decide +kernel
theorem kRF_product_d101 : decode prog_13_method_25_code 101 = .ok (.iload 6, 2) := by decide +kernel
theorem kRF_product_d103 : decode prog_13_method_25_code 103 = .ok (.iload 7, 2) := by decide +kernel
theorem kRF_product_d105 : decode prog_13_method_25_code 105 = .ok (.invokevirtual 141, 3) := by decide +kernel
theorem kRF_product_d108 : decode prog_13_method_25_code 108 = .ok (.ireturn, 1) := by decide +kernel
theorem kRF_turned_d0 : decode prog_13_method_20_code 0 = .ok (.aload_n 0, 1) := by decide +kernel
theorem kRF_turned_d1 : decode prog_13_method_20_code 1 = .ok (.aload_n 0, 1) := by decide +kernel
theorem kRF_turned_d2 : decode prog_13_method_20_code 2 = .ok (.iload_n 1, 1) := by decide +kernel
theorem kRF_turned_d3 : decode prog_13_method_20_code 3 = .ok (.invokevirtual 112, 3) := by decide +kernel
theorem kRF_turned_d6 : decode prog_13_method_20_code 6 = .ok (.aload_n 0, 1) := by decide +kernel
theorem kRF_turned_d7 : decode prog_13_method_20_code 7 = .ok (.iload_n 1, 1) := by decide +kernel
theorem kRF_turned_d8 : decode prog_13_method_20_code 8 = .ok (.invokevirtual 118, 3) := by decide +kernel
theorem kRF_turned_d11 : decode prog_13_method_20_code 11 = .ok (.invokevirtual 121, 3) := by decide +kernel
theorem kRF_turned_d14 : decode prog_13_method_20_code 14 = .ok (.istore_n 2, 1) := by decide +kernel
theorem kRF_turned_d15 : decode prog_13_method_20_code 15 = .ok (.iconst 0, 1) := by decide +kernel
theorem kRF_turned_d16 : decode prog_13_method_20_code 16 = .ok (.istore_n 3, 1) := by decide +kernel
theorem kRF_turned_d17 : decode prog_13_method_20_code 17 = .ok (.iload_n 3, 1) := by decide +kernel
theorem kRF_turned_d18 : decode prog_13_method_20_code 18 = .ok (.aload_n 0, 1) := by decide +kernel
theorem kRF_turned_d19 : decode prog_13_method_20_code 19 = .ok (.iload_n 1, 1) := by decide +kernel
theorem kRF_turned_d20 : decode prog_13_method_20_code 20 = .ok (.invokevirtual 64, 3) := by decide +kernel
theorem kRF_turned_d23 : decode prog_13_method_20_code 23 = .ok (.if_icmp .ge 37, 3) := by decide +kernel
theorem kRF_turned_d26 : decode prog_13_method_20_code 26 = .ok (.aload_n 0, 1) := by decide +kernel
theorem kRF_turned_d27 : decode prog_13_method_20_code 27 = .ok (.iload_n 2, 1) := by decide +kernel
theorem kRF_turned_d28 : decode prog_13_method_20_code 28 = .ok (.iload_n 3, 1) := by decide +kernel
theorem kRF_turned_d29 : decode prog_13_method_20_code 29 = .ok (.iload_n 1, 1) := by decide +kernel
theorem kRF_turned_d30 : decode prog_13_method_20_code 30 = .ok (.iload_n 3, 1) := by decide +kernel
theorem kRF_turned_d31 : decode prog_13_method_20_code 31 = .ok (.aload_n 0, 1) := by decide +kernel
theorem kRF_turned_d32 : decode prog_13_method_20_code 32 = .ok (.iload_n 1, 1) := by decide +kernel
theorem kRF_turned_d33 : decode prog_13_method_20_code 33 = .ok (.invokevirtual 118, 3) := by decide +kernel
theorem kRF_turned_d36 : decode prog_13_method_20_code 36 = .ok (.irem, 1) := by decide +kernel
theorem kRF_turned_d37 : decode prog_13_method_20_code 37 = .ok (.aload_n 0, 1) := by decide +kernel
theorem kRF_turned_d38 : decode prog_13_method_20_code 38 = .ok (.iload_n 1, 1) := by decide +kernel
theorem kRF_turned_d39 : decode prog_13_method_20_code 39 = .ok (.invokevirtual 112, 3) := by decide +kernel
theorem kRF_turned_d42 : decode prog_13_method_20_code 42 = .ok (.imul, 1) := by decide +kernel
theorem kRF_turned_d43 : decode prog_13_method_20_code 43 = .ok (.iload_n 3, 1) := by decide +kernel
theorem kRF_turned_d44 : decode prog_13_method_20_code 44 = .ok (.aload_n 0, 1) := by decide +kernel
theorem kRF_turned_d45 : decode prog_13_method_20_code 45 = .ok (.iload_n 1, 1) := by decide +kernel
theorem kRF_turned_d46 : decode prog_13_method_20_code 46 = .ok (.invokevirtual 118, 3) := by decide +kernel
theorem kRF_turned_d49 : decode prog_13_method_20_code 49 = .ok (.idiv, 1) := by decide +kernel
theorem kRF_turned_d50 : decode prog_13_method_20_code 50 = .ok (.iadd, 1) := by decide +kernel
theorem kRF_turned_d51 : decode prog_13_method_20_code 51 = .ok (.invokevirtual 124, 3) := by decide +kernel
theorem kRF_turned_d54 : decode prog_13_method_20_code 54 = .ok (.iinc 3 1, 3) := by decide +kernel
theorem kRF_turned_d57 : decode prog_13_method_20_code 57 = .ok (.goto (-40), 3) := by decide +kernel
theorem kRF_turned_d60 : decode prog_13_method_20_code 60 = .ok (.iload_n 2, 1) := by decide +kernel
theorem kRF_turned_d61 : decode prog_13_method_20_code 61 = .ok (.ireturn, 1) := by decide +kernel
theorem kRF_rowProduct_d0 : decode prog_13_method_18_code 0 = .ok (.aload_n 0, 1) := by decide +kernel
theorem kRF_rowProduct_d1 : decode prog_13_method_18_code 1 = .ok (.getfield 10, 3) := by decide +kernel
theorem kRF_rowProduct_d4 : decode prog_13_method_18_code 4 = .ok (.getfield 26, 3) := by decide +kernel
theorem kRF_rowProduct_d7 : decode prog_13_method_18_code 7 = .ok (.istore 5, 2) := by decide +kernel
theorem kRF_rowProduct_d9 : decode prog_13_method_18_code 9 = .ok (.iconst 0, 1) := by decide +kernel
theorem kRF_rowProduct_d10 : decode prog_13_method_18_code 10 = .ok (.istore 6, 2) := by decide +kernel
theorem kRF_rowProduct_d12 : decode prog_13_method_18_code 12 = .ok (.iconst 1, 1) := by decide +kernel
theorem kRF_rowProduct_d13 : decode prog_13_method_18_code 13 = .ok (.istore 7, 2) := by decide +kernel
theorem kRF_rowProduct_d15 : decode prog_13_method_18_code 15 = .ok (.iconst 0, 1) := by decide +kernel
theorem kRF_rowProduct_d16 : decode prog_13_method_18_code 16 = .ok (.istore 8, 2) := by decide +kernel
theorem kRF_rowProduct_d18 : decode prog_13_method_18_code 18 = .ok (.iload 8, 2) := by decide +kernel
theorem kRF_rowProduct_d20 : decode prog_13_method_18_code 20 = .ok (.aload_n 0, 1) := by decide +kernel
theorem kRF_rowProduct_d21 : decode prog_13_method_18_code 21 = .ok (.iload_n 1, 1) := by decide +kernel
theorem kRF_rowProduct_d22 : decode prog_13_method_18_code 22 = .ok (.invokevirtual 112, 3) := by decide +kernel
theorem kRF_rowProduct_d25 : decode prog_13_method_18_code 25 = .ok (.if_icmp .ge 323, 3) := by decide +kernel
theorem kRF_rowProduct_d28 : decode prog_13_method_18_code 28 = .ok (.iload_n 2, 1) := by decide +kernel
theorem kRF_rowProduct_d29 : decode prog_13_method_18_code 29 = .ok (.aload_n 0, 1) := by decide +kernel
theorem kRF_rowProduct_d30 : decode prog_13_method_18_code 30 = .ok (.iload_n 1, 1) := by decide +kernel
theorem kRF_rowProduct_d31 : decode prog_13_method_18_code 31 = .ok (.invokevirtual 112, 3) := by decide +kernel
theorem kRF_rowProduct_d34 : decode prog_13_method_18_code 34 = .ok (.imul, 1) := by decide +kernel
theorem kRF_rowProduct_d35 : decode prog_13_method_18_code 35 = .ok (.iload 8, 2) := by decide +kernel
theorem kRF_rowProduct_d37 : decode prog_13_method_18_code 37 = .ok (.iadd, 1) := by decide +kernel
theorem kRF_rowProduct_d38 : decode prog_13_method_18_code 38 = .ok (.istore 9, 2) := by decide +kernel
theorem kRF_rowProduct_d40 : decode prog_13_method_18_code 40 = .ok (.iload 4, 2) := by decide +kernel
theorem kRF_rowProduct_d42 : decode prog_13_method_18_code 42 = .ok (.aload_n 0, 1) := by decide +kernel
theorem kRF_rowProduct_d43 : decode prog_13_method_18_code 43 = .ok (.iload_n 3, 1) := by decide +kernel
theorem kRF_rowProduct_d44 : decode prog_13_method_18_code 44 = .ok (.invokevirtual 112, 3) := by decide +kernel
theorem kRF_rowProduct_d47 : decode prog_13_method_18_code 47 = .ok (.imul, 1) := by decide +kernel
theorem kRF_rowProduct_d48 : decode prog_13_method_18_code 48 = .ok (.iload 8, 2) := by decide +kernel
theorem kRF_rowProduct_d50 : decode prog_13_method_18_code 50 = .ok (.iadd, 1) := by decide +kernel
theorem kRF_rowProduct_d51 : decode prog_13_method_18_code 51 = .ok (.istore 10, 2) := by decide +kernel
theorem kRF_rowProduct_d53 : decode prog_13_method_18_code 53 = .ok (.aload_n 0, 1) := by decide +kernel
theorem kRF_rowProduct_d54 : decode prog_13_method_18_code 54 = .ok (.iload_n 1, 1) := by decide +kernel
theorem kRF_rowProduct_d55 : decode prog_13_method_18_code 55 = .ok (.iload 9, 2) := by decide +kernel
theorem kRF_rowProduct_d57 : decode prog_13_method_18_code 57 = .ok (.invokevirtual 43, 3) := by decide +kernel
theorem kRF_rowProduct_d60 : decode prog_13_method_18_code 60 = .ok (.ifCond .eq 282, 3) := by decide +kernel
theorem kRF_rowProduct_d63 : decode prog_13_method_18_code 63 = .ok (.aload_n 0, 1) := by decide +kernel
theorem kRF_rowProduct_d64 : decode prog_13_method_18_code 64 = .ok (.iload_n 3, 1) := by decide +kernel
theorem kRF_rowProduct_d65 : decode prog_13_method_18_code 65 = .ok (.iload 10, 2) := by decide +kernel
theorem kRF_rowProduct_d67 : decode prog_13_method_18_code 67 = .ok (.invokevirtual 43, 3) := by decide +kernel
theorem kRF_rowProduct_d70 : decode prog_13_method_18_code 70 = .ok (.ifCond .ne 6, 3) := by decide +kernel
theorem kRF_rowProduct_d73 : decode prog_13_method_18_code 73 = .ok (.goto 269, 3) := by decide +kernel
theorem kRF_rowProduct_d76 : decode prog_13_method_18_code 76 = .ok (.aload_n 0, 1) := by decide +kernel
theorem kRF_rowProduct_d77 : decode prog_13_method_18_code 77 = .ok (.getfield 10, 3) := by decide +kernel
theorem kRF_rowProduct_d80 : decode prog_13_method_18_code 80 = .ok (.aload_n 0, 1) := by decide +kernel
theorem kRF_rowProduct_d81 : decode prog_13_method_18_code 81 = .ok (.iload_n 1, 1) := by decide +kernel
theorem kRF_rowProduct_d82 : decode prog_13_method_18_code 82 = .ok (.iload 9, 2) := by decide +kernel
theorem kRF_rowProduct_d84 : decode prog_13_method_18_code 84 = .ok (.invokevirtual 43, 3) := by decide +kernel
theorem kRF_rowProduct_d87 : decode prog_13_method_18_code 87 = .ok (.aload_n 0, 1) := by decide +kernel
theorem kRF_rowProduct_d88 : decode prog_13_method_18_code 88 = .ok (.iload_n 3, 1) := by decide +kernel
theorem kRF_rowProduct_d89 : decode prog_13_method_18_code 89 = .ok (.iload 10, 2) := by decide +kernel
theorem kRF_rowProduct_d91 : decode prog_13_method_18_code 91 = .ok (.invokevirtual 43, 3) := by decide +kernel
theorem kRF_rowProduct_d94 : decode prog_13_method_18_code 94 = .ok (.invokevirtual 106, 3) := by decide +kernel
theorem kRF_rowProduct_d97 : decode prog_13_method_18_code 97 = .ok (.istore 11, 2) := by decide +kernel
theorem kRF_rowProduct_d99 : decode prog_13_method_18_code 99 = .ok (.aload_n 0, 1) := by decide +kernel
theorem kRF_rowProduct_d100 : decode prog_13_method_18_code 100 = .ok (.iload_n 1, 1) := by decide +kernel
theorem kRF_rowProduct_d101 : decode prog_13_method_18_code 101 = .ok (.iload 9, 2) := by decide +kernel
theorem kRF_rowProduct_d103 : decode prog_13_method_18_code 103 = .ok (.invokevirtual 51, 3) := by decide +kernel
theorem kRF_rowProduct_d106 : decode prog_13_method_18_code 106 = .ok (.iconst 1, 1) := by decide +kernel
theorem kRF_rowProduct_d107 : decode prog_13_method_18_code 107 = .ok (.if_icmp .ne 13, 3) := by decide +kernel
theorem kRF_rowProduct_d110 : decode prog_13_method_18_code 110 = .ok (.aload_n 0, 1) := by decide +kernel
theorem kRF_rowProduct_d111 : decode prog_13_method_18_code 111 = .ok (.iload_n 3, 1) := by decide +kernel
theorem kRF_rowProduct_d112 : decode prog_13_method_18_code 112 = .ok (.iload 10, 2) := by decide +kernel
theorem kRF_rowProduct_d114 : decode prog_13_method_18_code 114 = .ok (.invokevirtual 51, 3) := by decide +kernel
theorem kRF_rowProduct_d117 : decode prog_13_method_18_code 117 = .ok (.goto 45, 3) := by decide +kernel
theorem kRF_rowProduct_d120 : decode prog_13_method_18_code 120 = .ok (.aload_n 0, 1) := by decide +kernel
theorem kRF_rowProduct_d121 : decode prog_13_method_18_code 121 = .ok (.iload_n 3, 1) := by decide +kernel
theorem kRF_rowProduct_d122 : decode prog_13_method_18_code 122 = .ok (.iload 10, 2) := by decide +kernel
theorem kRF_rowProduct_d124 : decode prog_13_method_18_code 124 = .ok (.invokevirtual 51, 3) := by decide +kernel
theorem kRF_rowProduct_d127 : decode prog_13_method_18_code 127 = .ok (.iconst 1, 1) := by decide +kernel
theorem kRF_rowProduct_d128 : decode prog_13_method_18_code 128 = .ok (.if_icmp .ne 13, 3) := by decide +kernel
theorem kRF_rowProduct_d131 : decode prog_13_method_18_code 131 = .ok (.aload_n 0, 1) := by decide +kernel
theorem kRF_rowProduct_d132 : decode prog_13_method_18_code 132 = .ok (.iload_n 1, 1) := by decide +kernel
theorem kRF_rowProduct_d133 : decode prog_13_method_18_code 133 = .ok (.iload 9, 2) := by decide +kernel
theorem kRF_rowProduct_d135 : decode prog_13_method_18_code 135 = .ok (.invokevirtual 51, 3) := by decide +kernel
theorem kRF_rowProduct_d138 : decode prog_13_method_18_code 138 = .ok (.goto 24, 3) := by decide +kernel
theorem kRF_rowProduct_d141 : decode prog_13_method_18_code 141 = .ok (.aload_n 0, 1) := by decide +kernel
theorem kRF_rowProduct_d142 : decode prog_13_method_18_code 142 = .ok (.getfield 10, 3) := by decide +kernel
theorem kRF_rowProduct_d145 : decode prog_13_method_18_code 145 = .ok (.aload_n 0, 1) := by decide +kernel
theorem kRF_rowProduct_d146 : decode prog_13_method_18_code 146 = .ok (.iload_n 1, 1) := by decide +kernel
theorem kRF_rowProduct_d147 : decode prog_13_method_18_code 147 = .ok (.iload 9, 2) := by decide +kernel
theorem kRF_rowProduct_d149 : decode prog_13_method_18_code 149 = .ok (.invokevirtual 51, 3) := by decide +kernel
theorem kRF_rowProduct_d152 : decode prog_13_method_18_code 152 = .ok (.aload_n 0, 1) := by decide +kernel
theorem kRF_rowProduct_d153 : decode prog_13_method_18_code 153 = .ok (.iload_n 3, 1) := by decide +kernel
theorem kRF_rowProduct_d154 : decode prog_13_method_18_code 154 = .ok (.iload 10, 2) := by decide +kernel
theorem kRF_rowProduct_d156 : decode prog_13_method_18_code 156 = .ok (.invokevirtual 51, 3) := by decide +kernel
theorem kRF_rowProduct_d159 : decode prog_13_method_18_code 159 = .ok (.invokevirtual 106, 3) := by decide +kernel
theorem kRF_rowProduct_d162 : decode prog_13_method_18_code 162 = .ok (.istore 12, 2) := by decide +kernel
theorem kRF_rowProduct_d164 : decode prog_13_method_18_code 164 = .ok (.aload_n 0, 1) := by decide +kernel
theorem kRF_rowProduct_d165 : decode prog_13_method_18_code 165 = .ok (.getfield 10, 3) := by decide +kernel
theorem kRF_rowProduct_d168 : decode prog_13_method_18_code 168 = .ok (.iload 7, 2) := by decide +kernel
theorem kRF_rowProduct_d170 : decode prog_13_method_18_code 170 = .ok (.iload 12, 2) := by decide +kernel
theorem kRF_rowProduct_d172 : decode prog_13_method_18_code 172 = .ok (.invokevirtual 115, 3) := by decide +kernel
theorem kRF_rowProduct_d175 : decode prog_13_method_18_code 175 = .ok (.ifCond .ne 19, 3) := by decide +kernel
theorem kRF_rowProduct_d178 : decode prog_13_method_18_code 178 = .ok (.aload_n 0, 1) := by decide +kernel
theorem kRF_rowProduct_d179 : decode prog_13_method_18_code 179 = .ok (.getfield 10, 3) := by decide +kernel
theorem kRF_rowProduct_d182 : decode prog_13_method_18_code 182 = .ok (.iload 6, 2) := by decide +kernel
theorem kRF_rowProduct_d184 : decode prog_13_method_18_code 184 = .ok (.iload 11, 2) := by decide +kernel
theorem kRF_rowProduct_d186 : decode prog_13_method_18_code 186 = .ok (.invokevirtual 103, 3) := by decide +kernel
theorem kRF_rowProduct_d189 : decode prog_13_method_18_code 189 = .ok (.istore 6, 2) := by decide +kernel
theorem kRF_rowProduct_d191 : decode prog_13_method_18_code 191 = .ok (.goto 82, 3) := by decide +kernel
theorem kRF_rowProduct_d194 : decode prog_13_method_18_code 194 = .ok (.aload_n 0, 1) := by decide +kernel
theorem kRF_rowProduct_d195 : decode prog_13_method_18_code 195 = .ok (.getfield 10, 3) := by decide +kernel
theorem kRF_rowProduct_d198 : decode prog_13_method_18_code 198 = .ok (.iload 7, 2) := by decide +kernel
theorem kRF_rowProduct_d200 : decode prog_13_method_18_code 200 = .ok (.iload 12, 2) := by decide +kernel
theorem kRF_rowProduct_d202 : decode prog_13_method_18_code 202 = .ok (.invokevirtual 67, 3) := by decide +kernel
theorem kRF_rowProduct_d205 : decode prog_13_method_18_code 205 = .ok (.istore 13, 2) := by decide +kernel
theorem kRF_rowProduct_d207 : decode prog_13_method_18_code 207 = .ok (.aload_n 0, 1) := by decide +kernel
theorem kRF_rowProduct_d208 : decode prog_13_method_18_code 208 = .ok (.getfield 10, 3) := by decide +kernel
theorem kRF_rowProduct_d211 : decode prog_13_method_18_code 211 = .ok (.iload 12, 2) := by decide +kernel
theorem kRF_rowProduct_d213 : decode prog_13_method_18_code 213 = .ok (.iload 13, 2) := by decide +kernel
theorem kRF_rowProduct_d215 : decode prog_13_method_18_code 215 = .ok (.invokevirtual 80, 3) := by decide +kernel
theorem kRF_rowProduct_d218 : decode prog_13_method_18_code 218 = .ok (.istore 14, 2) := by decide +kernel
theorem kRF_rowProduct_d220 : decode prog_13_method_18_code 220 = .ok (.aload_n 0, 1) := by decide +kernel
theorem kRF_rowProduct_d221 : decode prog_13_method_18_code 221 = .ok (.getfield 10, 3) := by decide +kernel
theorem kRF_rowProduct_d224 : decode prog_13_method_18_code 224 = .ok (.aload_n 0, 1) := by decide +kernel
theorem kRF_rowProduct_d225 : decode prog_13_method_18_code 225 = .ok (.getfield 10, 3) := by decide +kernel
theorem kRF_rowProduct_d228 : decode prog_13_method_18_code 228 = .ok (.iload 6, 2) := by decide +kernel
theorem kRF_rowProduct_d230 : decode prog_13_method_18_code 230 = .ok (.iload 14, 2) := by decide +kernel
theorem kRF_rowProduct_d232 : decode prog_13_method_18_code 232 = .ok (.invokevirtual 106, 3) := by decide +kernel
theorem kRF_rowProduct_d235 : decode prog_13_method_18_code 235 = .ok (.aload_n 0, 1) := by decide +kernel
theorem kRF_rowProduct_d236 : decode prog_13_method_18_code 236 = .ok (.getfield 10, 3) := by decide +kernel
theorem kRF_rowProduct_d239 : decode prog_13_method_18_code 239 = .ok (.iload 11, 2) := by decide +kernel
theorem kRF_rowProduct_d241 : decode prog_13_method_18_code 241 = .ok (.aload_n 0, 1) := by decide +kernel
theorem kRF_rowProduct_d242 : decode prog_13_method_18_code 242 = .ok (.getfield 10, 3) := by decide +kernel
theorem kRF_rowProduct_d245 : decode prog_13_method_18_code 245 = .ok (.iload 7, 2) := by decide +kernel
theorem kRF_rowProduct_d247 : decode prog_13_method_18_code 247 = .ok (.iload 13, 2) := by decide +kernel
theorem kRF_rowProduct_d249 : decode prog_13_method_18_code 249 = .ok (.invokevirtual 80, 3) := by decide +kernel
theorem kRF_rowProduct_d252 : decode prog_13_method_18_code 252 = .ok (.invokevirtual 106, 3) := by decide +kernel
theorem kRF_rowProduct_d255 : decode prog_13_method_18_code 255 = .ok (.invokevirtual 103, 3) := by decide +kernel
theorem kRF_rowProduct_d258 : decode prog_13_method_18_code 258 = .ok (.istore 6, 2) := by decide +kernel
theorem kRF_rowProduct_d260 : decode prog_13_method_18_code 260 = .ok (.aload_n 0, 1) := by decide +kernel
theorem kRF_rowProduct_d261 : decode prog_13_method_18_code 261 = .ok (.getfield 10, 3) := by decide +kernel
theorem kRF_rowProduct_d264 : decode prog_13_method_18_code 264 = .ok (.iload 7, 2) := by decide +kernel
theorem kRF_rowProduct_d266 : decode prog_13_method_18_code 266 = .ok (.iload 14, 2) := by decide +kernel
theorem kRF_rowProduct_d268 : decode prog_13_method_18_code 268 = .ok (.invokevirtual 106, 3) := by decide +kernel
theorem kRF_rowProduct_d271 : decode prog_13_method_18_code 271 = .ok (.istore 7, 2) := by decide +kernel
theorem kRF_rowProduct_d273 : decode prog_13_method_18_code 273 = .ok (.aload_n 0, 1) := by decide +kernel
theorem kRF_rowProduct_d274 : decode prog_13_method_18_code 274 = .ok (.getfield 10, 3) := by decide +kernel
theorem kRF_rowProduct_d277 : decode prog_13_method_18_code 277 = .ok (.getfield 26, 3) := by decide +kernel
theorem kRF_rowProduct_d280 : decode prog_13_method_18_code 280 = .ok (.iload 5, 2) := by decide +kernel
theorem kRF_rowProduct_d282 : decode prog_13_method_18_code 282 = .ok (.isub, 1) := by decide +kernel
theorem kRF_rowProduct_d283 : decode prog_13_method_18_code 283 = .ok (.sipush 20000, 3) := by decide +kernel
theorem kRF_rowProduct_d286 : decode prog_13_method_18_code 286 = .ok (.if_icmp .le 56, 3) := by decide +kernel
theorem kRF_rowProduct_d289 : decode prog_13_method_18_code 289 = .ok (.aload_n 0, 1) := by decide +kernel
theorem kRF_rowProduct_d290 : decode prog_13_method_18_code 290 = .ok (.getfield 10, 3) := by decide +kernel
theorem kRF_rowProduct_d293 : decode prog_13_method_18_code 293 = .ok (.iload 6, 2) := by decide +kernel
theorem kRF_rowProduct_d295 : decode prog_13_method_18_code 295 = .ok (.invokevirtual 47, 3) := by decide +kernel
theorem kRF_rowProduct_d298 : decode prog_13_method_18_code 298 = .ok (.istore 13, 2) := by decide +kernel
theorem kRF_rowProduct_d300 : decode prog_13_method_18_code 300 = .ok (.aload_n 0, 1) := by decide +kernel
theorem kRF_rowProduct_d301 : decode prog_13_method_18_code 301 = .ok (.getfield 10, 3) := by decide +kernel
theorem kRF_rowProduct_d304 : decode prog_13_method_18_code 304 = .ok (.iload 7, 2) := by decide +kernel
theorem kRF_rowProduct_d306 : decode prog_13_method_18_code 306 = .ok (.invokevirtual 47, 3) := by decide +kernel
theorem kRF_rowProduct_d309 : decode prog_13_method_18_code 309 = .ok (.istore 14, 2) := by decide +kernel
theorem kRF_rowProduct_d311 : decode prog_13_method_18_code 311 = .ok (.aload_n 0, 1) := by decide +kernel
theorem kRF_rowProduct_d312 : decode prog_13_method_18_code 312 = .ok (.getfield 10, 3) := by decide +kernel
theorem kRF_rowProduct_d315 : decode prog_13_method_18_code 315 = .ok (.iload 13, 2) := by decide +kernel
theorem kRF_rowProduct_d317 : decode prog_13_method_18_code 317 = .ok (.iload 5, 2) := by decide +kernel
theorem kRF_rowProduct_d319 : decode prog_13_method_18_code 319 = .ok (.invokevirtual 90, 3) := by decide +kernel
theorem kRF_rowProduct_d322 : decode prog_13_method_18_code 322 = .ok (.istore 6, 2) := by decide +kernel
theorem kRF_rowProduct_d324 : decode prog_13_method_18_code 324 = .ok (.aload_n 0, 1) := by decide +kernel
theorem kRF_rowProduct_d325 : decode prog_13_method_18_code 325 = .ok (.getfield 10, 3) := by decide +kernel
theorem kRF_rowProduct_d328 : decode prog_13_method_18_code 328 = .ok (.iload 14, 2) := by decide +kernel
theorem kRF_rowProduct_d330 : decode prog_13_method_18_code 330 = .ok (.aload_n 0, 1) := by decide +kernel
theorem kRF_rowProduct_d331 : decode prog_13_method_18_code 331 = .ok (.getfield 10, 3) := by decide +kernel
theorem kRF_rowProduct_d334 : decode prog_13_method_18_code 334 = .ok (.getfield 26, 3) := by decide +kernel
theorem kRF_rowProduct_d337 : decode prog_13_method_18_code 337 = .ok (.invokevirtual 90, 3) := by decide +kernel
theorem kRF_rowProduct_d340 : decode prog_13_method_18_code 340 = .ok (.istore 7, 2) := by decide +kernel
theorem kRF_rowProduct_d342 : decode prog_13_method_18_code 342 = .ok (.iinc 8 1, 3) := by decide +kernel
theorem kRF_rowProduct_d345 : decode prog_13_method_18_code 345 = .ok (.goto (-327), 3) := by decide +kernel
theorem kRF_rowProduct_d348 : decode prog_13_method_18_code 348 = .ok (.aload_n 0, 1) := by decide +kernel
theorem kRF_rowProduct_d349 : decode prog_13_method_18_code 349 = .ok (.iload 5, 2) := by decide +kernel
theorem kRF_rowProduct_d351 : decode prog_13_method_18_code 351 = .ok (.iload 6, 2) := by decide +kernel
theorem kRF_rowProduct_d353 : decode prog_13_method_18_code 353 = .ok (.iload 7, 2) := by decide +kernel
theorem kRF_rowProduct_d355 : decode prog_13_method_18_code 355 = .ok (.invokevirtual 109, 3) := by decide +kernel
theorem kRF_rowProduct_d358 : decode prog_13_method_18_code 358 = .ok (.return_, 1) := by decide +kernel
theorem kRF_slide_d0 : decode prog_13_method_10_code 0 = .ok (.iload_n 3, 1) := by decide +kernel
theorem kRF_slide_d1 : decode prog_13_method_10_code 1 = .ok (.iload_n 1, 1) := by decide +kernel
theorem kRF_slide_d2 : decode prog_13_method_10_code 2 = .ok (.isub, 1) := by decide +kernel
theorem kRF_slide_d3 : decode prog_13_method_10_code 3 = .ok (.istore 5, 2) := by decide +kernel
theorem kRF_slide_d5 : decode prog_13_method_10_code 5 = .ok (.aload_n 0, 1) := by decide +kernel
theorem kRF_slide_d6 : decode prog_13_method_10_code 6 = .ok (.getfield 10, 3) := by decide +kernel
theorem kRF_slide_d9 : decode prog_13_method_10_code 9 = .ok (.getfield 26, 3) := by decide +kernel
theorem kRF_slide_d12 : decode prog_13_method_10_code 12 = .ok (.iload_n 3, 1) := by decide +kernel
theorem kRF_slide_d13 : decode prog_13_method_10_code 13 = .ok (.isub, 1) := by decide +kernel
theorem kRF_slide_d14 : decode prog_13_method_10_code 14 = .ok (.istore 6, 2) := by decide +kernel
theorem kRF_slide_d16 : decode prog_13_method_10_code 16 = .ok (.aload_n 0, 1) := by decide +kernel
theorem kRF_slide_d17 : decode prog_13_method_10_code 17 = .ok (.getfield 10, 3) := by decide +kernel
theorem kRF_slide_d20 : decode prog_13_method_10_code 20 = .ok (.getfield 23, 3) := by decide +kernel
theorem kRF_slide_d23 : decode prog_13_method_10_code 23 = .ok (.iload_n 3, 1) := by decide +kernel
theorem kRF_slide_d24 : decode prog_13_method_10_code 24 = .ok (.aload_n 0, 1) := by decide +kernel
theorem kRF_slide_d25 : decode prog_13_method_10_code 25 = .ok (.getfield 10, 3) := by decide +kernel
theorem kRF_slide_d28 : decode prog_13_method_10_code 28 = .ok (.getfield 23, 3) := by decide +kernel
theorem kRF_slide_d31 : decode prog_13_method_10_code 31 = .ok (.iload_n 1, 1) := by decide +kernel
theorem kRF_slide_d32 : decode prog_13_method_10_code 32 = .ok (.iload 6, 2) := by decide +kernel
theorem kRF_slide_d34 : decode prog_13_method_10_code 34 = .ok (.invokestatic 58, 3) := by decide +kernel
theorem kRF_slide_d37 : decode prog_13_method_10_code 37 = .ok (.aload_n 0, 1) := by decide +kernel
theorem kRF_slide_d38 : decode prog_13_method_10_code 38 = .ok (.getfield 10, 3) := by decide +kernel
theorem kRF_slide_d41 : decode prog_13_method_10_code 41 = .ok (.iload_n 1, 1) := by decide +kernel
theorem kRF_slide_d42 : decode prog_13_method_10_code 42 = .ok (.iload 6, 2) := by decide +kernel
theorem kRF_slide_d44 : decode prog_13_method_10_code 44 = .ok (.iadd, 1) := by decide +kernel
theorem kRF_slide_d45 : decode prog_13_method_10_code 45 = .ok (.putfield 26, 3) := by decide +kernel
theorem kRF_slide_d48 : decode prog_13_method_10_code 48 = .ok (.iconst 2, 1) := by decide +kernel
theorem kRF_slide_d49 : decode prog_13_method_10_code 49 = .ok (.iconst 2, 1) := by decide +kernel
theorem kRF_slide_d50 : decode prog_13_method_10_code 50 = .ok (.aload_n 0, 1) := by decide +kernel
theorem kRF_slide_d51 : decode prog_13_method_10_code 51 = .ok (.iload 4, 2) := by decide +kernel
theorem kRF_slide_d53 : decode prog_13_method_10_code 53 = .ok (.invokevirtual 64, 3) := by decide +kernel
theorem kRF_slide_d56 : decode prog_13_method_10_code 56 = .ok (.imul, 1) := by decide +kernel
theorem kRF_slide_d57 : decode prog_13_method_10_code 57 = .ok (.iadd, 1) := by decide +kernel
theorem kRF_slide_d58 : decode prog_13_method_10_code 58 = .ok (.istore 7, 2) := by decide +kernel
theorem kRF_slide_d60 : decode prog_13_method_10_code 60 = .ok (.iconst 0, 1) := by decide +kernel
theorem kRF_slide_d61 : decode prog_13_method_10_code 61 = .ok (.istore 8, 2) := by decide +kernel
theorem kRF_slide_d63 : decode prog_13_method_10_code 63 = .ok (.iload 8, 2) := by decide +kernel
theorem kRF_slide_d65 : decode prog_13_method_10_code 65 = .ok (.iload 7, 2) := by decide +kernel
theorem kRF_slide_d67 : decode prog_13_method_10_code 67 = .ok (.if_icmp .ge 52, 3) := by decide +kernel
theorem kRF_slide_d70 : decode prog_13_method_10_code 70 = .ok (.aload_n 0, 1) := by decide +kernel
theorem kRF_slide_d71 : decode prog_13_method_10_code 71 = .ok (.getfield 16, 3) := by decide +kernel
theorem kRF_slide_d74 : decode prog_13_method_10_code 74 = .ok (.iload 4, 2) := by decide +kernel
theorem kRF_slide_d76 : decode prog_13_method_10_code 76 = .ok (.iload 8, 2) := by decide +kernel
theorem kRF_slide_d78 : decode prog_13_method_10_code 78 = .ok (.iadd, 1) := by decide +kernel
theorem kRF_slide_d79 : decode prog_13_method_10_code 79 = .ok (.iaload, 1) := by decide +kernel
theorem kRF_slide_d80 : decode prog_13_method_10_code 80 = .ok (.istore 9, 2) := by decide +kernel
theorem kRF_slide_d82 : decode prog_13_method_10_code 82 = .ok (.aload_n 0, 1) := by decide +kernel
theorem kRF_slide_d83 : decode prog_13_method_10_code 83 = .ok (.getfield 16, 3) := by decide +kernel
theorem kRF_slide_d86 : decode prog_13_method_10_code 86 = .ok (.iload_n 2, 1) := by decide +kernel
theorem kRF_slide_d87 : decode prog_13_method_10_code 87 = .ok (.iload 8, 2) := by decide +kernel
theorem kRF_slide_d89 : decode prog_13_method_10_code 89 = .ok (.iadd, 1) := by decide +kernel
theorem kRF_slide_d90 : decode prog_13_method_10_code 90 = .ok (.iload 8, 2) := by decide +kernel
theorem kRF_slide_d92 : decode prog_13_method_10_code 92 = .ok (.iconst 1, 1) := by decide +kernel
theorem kRF_slide_d93 : decode prog_13_method_10_code 93 = .ok (.if_icmp .le 17, 3) := by decide +kernel
theorem kRF_slide_d96 : decode prog_13_method_10_code 96 = .ok (.iload 9, 2) := by decide +kernel
theorem kRF_slide_d98 : decode prog_13_method_10_code 98 = .ok (.iload_n 3, 1) := by decide +kernel
theorem kRF_slide_d99 : decode prog_13_method_10_code 99 = .ok (.if_icmp .lt 11, 3) := by decide +kernel
theorem kRF_slide_d102 : decode prog_13_method_10_code 102 = .ok (.iload 9, 2) := by decide +kernel
theorem kRF_slide_d104 : decode prog_13_method_10_code 104 = .ok (.iload 5, 2) := by decide +kernel
theorem kRF_slide_d106 : decode prog_13_method_10_code 106 = .ok (.isub, 1) := by decide +kernel
theorem kRF_slide_d107 : decode prog_13_method_10_code 107 = .ok (.goto 5, 3) := by decide +kernel
theorem kRF_slide_d110 : decode prog_13_method_10_code 110 = .ok (.iload 9, 2) := by decide +kernel
theorem kRF_slide_d112 : decode prog_13_method_10_code 112 = .ok (.iastore, 1) := by decide +kernel
theorem kRF_slide_d113 : decode prog_13_method_10_code 113 = .ok (.iinc 8 1, 3) := by decide +kernel
theorem kRF_slide_d116 : decode prog_13_method_10_code 116 = .ok (.goto (-53), 3) := by decide +kernel
theorem kRF_slide_d119 : decode prog_13_method_10_code 119 = .ok (.aload_n 0, 1) := by decide +kernel
theorem kRF_slide_d120 : decode prog_13_method_10_code 120 = .ok (.iload_n 2, 1) := by decide +kernel
theorem kRF_slide_d121 : decode prog_13_method_10_code 121 = .ok (.iload 7, 2) := by decide +kernel
theorem kRF_slide_d123 : decode prog_13_method_10_code 123 = .ok (.iadd, 1) := by decide +kernel
theorem kRF_slide_d124 : decode prog_13_method_10_code 124 = .ok (.putfield 30, 3) := by decide +kernel
theorem kRF_slide_d127 : decode prog_13_method_10_code 127 = .ok (.iload_n 2, 1) := by decide +kernel
theorem kRF_slide_d128 : decode prog_13_method_10_code 128 = .ok (.ireturn, 1) := by decide +kernel
theorem kRF_beside_d0 : decode prog_13_method_22_code 0 = .ok (.aload_n 0, 1) := by decide +kernel
theorem kRF_beside_d1 : decode prog_13_method_22_code 1 = .ok (.iload_n 1, 1) := by decide +kernel
theorem kRF_beside_d2 : decode prog_13_method_22_code 2 = .ok (.invokevirtual 112, 3) := by decide +kernel
theorem kRF_beside_d5 : decode prog_13_method_22_code 5 = .ok (.aload_n 0, 1) := by decide +kernel
theorem kRF_beside_d6 : decode prog_13_method_22_code 6 = .ok (.iload_n 2, 1) := by decide +kernel
theorem kRF_beside_d7 : decode prog_13_method_22_code 7 = .ok (.invokevirtual 112, 3) := by decide +kernel
theorem kRF_beside_d10 : decode prog_13_method_22_code 10 = .ok (.iadd, 1) := by decide +kernel
theorem kRF_beside_d11 : decode prog_13_method_22_code 11 = .ok (.istore_n 3, 1) := by decide +kernel
theorem kRF_beside_d12 : decode prog_13_method_22_code 12 = .ok (.aload_n 0, 1) := by decide +kernel
theorem kRF_beside_d13 : decode prog_13_method_22_code 13 = .ok (.aload_n 0, 1) := by decide +kernel
theorem kRF_beside_d14 : decode prog_13_method_22_code 14 = .ok (.iload_n 1, 1) := by decide +kernel
theorem kRF_beside_d15 : decode prog_13_method_22_code 15 = .ok (.invokevirtual 118, 3) := by decide +kernel
theorem kRF_beside_d18 : decode prog_13_method_22_code 18 = .ok (.iload_n 3, 1) := by decide +kernel
theorem kRF_beside_d19 : decode prog_13_method_22_code 19 = .ok (.invokevirtual 121, 3) := by decide +kernel
theorem kRF_beside_d22 : decode prog_13_method_22_code 22 = .ok (.istore 4, 2) := by decide +kernel
theorem kRF_beside_d24 : decode prog_13_method_22_code 24 = .ok (.iconst 0, 1) := by decide +kernel
theorem kRF_beside_d25 : decode prog_13_method_22_code 25 = .ok (.istore 5, 2) := by decide +kernel
theorem kRF_beside_d27 : decode prog_13_method_22_code 27 = .ok (.iload 5, 2) := by decide +kernel
theorem kRF_beside_d29 : decode prog_13_method_22_code 29 = .ok (.aload_n 0, 1) := by decide +kernel
theorem kRF_beside_d30 : decode prog_13_method_22_code 30 = .ok (.iload 4, 2) := by decide +kernel
theorem kRF_beside_d32 : decode prog_13_method_22_code 32 = .ok (.invokevirtual 64, 3) := by decide +kernel
theorem kRF_beside_d35 : decode prog_13_method_22_code 35 = .ok (.if_icmp .ge 80, 3) := by decide +kernel
theorem kRF_beside_d38 : decode prog_13_method_22_code 38 = .ok (.iload 5, 2) := by decide +kernel
theorem kRF_beside_d40 : decode prog_13_method_22_code 40 = .ok (.iload_n 3, 1) := by decide +kernel
theorem kRF_beside_d41 : decode prog_13_method_22_code 41 = .ok (.idiv, 1) := by decide +kernel
theorem kRF_beside_d42 : decode prog_13_method_22_code 42 = .ok (.istore 6, 2) := by decide +kernel
theorem kRF_beside_d44 : decode prog_13_method_22_code 44 = .ok (.iload 5, 2) := by decide +kernel
theorem kRF_beside_d46 : decode prog_13_method_22_code 46 = .ok (.iload_n 3, 1) := by decide +kernel
theorem kRF_beside_d47 : decode prog_13_method_22_code 47 = .ok (.irem, 1) := by decide +kernel
theorem kRF_beside_d48 : decode prog_13_method_22_code 48 = .ok (.istore 7, 2) := by decide +kernel
theorem kRF_beside_d50 : decode prog_13_method_22_code 50 = .ok (.iload 7, 2) := by decide +kernel
theorem kRF_beside_d52 : decode prog_13_method_22_code 52 = .ok (.aload_n 0, 1) := by decide +kernel
theorem kRF_beside_d53 : decode prog_13_method_22_code 53 = .ok (.iload_n 1, 1) := by decide +kernel
theorem kRF_beside_d54 : decode prog_13_method_22_code 54 = .ok (.invokevirtual 112, 3) := by decide +kernel
theorem kRF_beside_d57 : decode prog_13_method_22_code 57 = .ok (.if_icmp .ge 26, 3) := by decide +kernel
theorem kRF_beside_d60 : decode prog_13_method_22_code 60 = .ok (.aload_n 0, 1) := by decide +kernel
theorem kRF_beside_d61 : decode prog_13_method_22_code 61 = .ok (.iload 4, 2) := by decide +kernel
theorem kRF_beside_d63 : decode prog_13_method_22_code 63 = .ok (.iload 5, 2) := by decide +kernel
theorem kRF_beside_d65 : decode prog_13_method_22_code 65 = .ok (.iload_n 1, 1) := by decide +kernel
theorem kRF_beside_d66 : decode prog_13_method_22_code 66 = .ok (.iload 6, 2) := by decide +kernel
theorem kRF_beside_d68 : decode prog_13_method_22_code 68 = .ok (.aload_n 0, 1) := by decide +kernel
theorem kRF_beside_d69 : decode prog_13_method_22_code 69 = .ok (.iload_n 1, 1) := by decide +kernel
theorem kRF_beside_d70 : decode prog_13_method_22_code 70 = .ok (.invokevirtual 112, 3) := by decide +kernel
theorem kRF_beside_d73 : decode prog_13_method_22_code 73 = .ok (.imul, 1) := by decide +kernel
theorem kRF_beside_d74 : decode prog_13_method_22_code 74 = .ok (.iload 7, 2) := by decide +kernel
theorem kRF_beside_d76 : decode prog_13_method_22_code 76 = .ok (.iadd, 1) := by decide +kernel
theorem kRF_beside_d77 : decode prog_13_method_22_code 77 = .ok (.invokevirtual 124, 3) := by decide +kernel
theorem kRF_beside_d80 : decode prog_13_method_22_code 80 = .ok (.goto 29, 3) := by decide +kernel
theorem kRF_beside_d83 : decode prog_13_method_22_code 83 = .ok (.aload_n 0, 1) := by decide +kernel
theorem kRF_beside_d84 : decode prog_13_method_22_code 84 = .ok (.iload 4, 2) := by decide +kernel
theorem kRF_beside_d86 : decode prog_13_method_22_code 86 = .ok (.iload 5, 2) := by decide +kernel
theorem kRF_beside_d88 : decode prog_13_method_22_code 88 = .ok (.iload_n 2, 1) := by decide +kernel
theorem kRF_beside_d89 : decode prog_13_method_22_code 89 = .ok (.iload 6, 2) := by decide +kernel
theorem kRF_beside_d91 : decode prog_13_method_22_code 91 = .ok (.aload_n 0, 1) := by decide +kernel
theorem kRF_beside_d92 : decode prog_13_method_22_code 92 = .ok (.iload_n 2, 1) := by decide +kernel
theorem kRF_beside_d93 : decode prog_13_method_22_code 93 = .ok (.invokevirtual 112, 3) := by decide +kernel
theorem kRF_beside_d96 : decode prog_13_method_22_code 96 = .ok (.imul, 1) := by decide +kernel
theorem kRF_beside_d97 : decode prog_13_method_22_code 97 = .ok (.iload 7, 2) := by decide +kernel
theorem kRF_beside_d99 : decode prog_13_method_22_code 99 = .ok (.iadd, 1) := by decide +kernel
theorem kRF_beside_d100 : decode prog_13_method_22_code 100 = .ok (.aload_n 0, 1) := by decide +kernel
theorem kRF_beside_d101 : decode prog_13_method_22_code 101 = .ok (.iload_n 1, 1) := by decide +kernel
theorem kRF_beside_d102 : decode prog_13_method_22_code 102 = .ok (.invokevirtual 112, 3) := by decide +kernel
theorem kRF_beside_d105 : decode prog_13_method_22_code 105 = .ok (.isub, 1) := by decide +kernel
theorem kRF_beside_d106 : decode prog_13_method_22_code 106 = .ok (.invokevirtual 124, 3) := by decide +kernel
theorem kRF_beside_d109 : decode prog_13_method_22_code 109 = .ok (.iinc 5 1, 3) := by decide +kernel
theorem kRF_beside_d112 : decode prog_13_method_22_code 112 = .ok (.goto (-85), 3) := by decide +kernel
theorem kRF_beside_d115 : decode prog_13_method_22_code 115 = .ok (.iload 4, 2) := by decide +kernel
theorem kRF_beside_d117 : decode prog_13_method_22_code 117 = .ok (.ireturn, 1) := by decide +kernel
theorem kRF_part_d0 : decode prog_13_method_23_code 0 = .ok (.aload_n 0, 1) := by decide +kernel
theorem kRF_part_d1 : decode prog_13_method_23_code 1 = .ok (.iload 4, 2) := by decide +kernel
theorem kRF_part_d3 : decode prog_13_method_23_code 3 = .ok (.iload 5, 2) := by decide +kernel
theorem kRF_part_d5 : decode prog_13_method_23_code 5 = .ok (.invokevirtual 121, 3) := by decide +kernel
theorem kRF_part_d8 : decode prog_13_method_23_code 8 = .ok (.istore 6, 2) := by decide +kernel
theorem kRF_part_d10 : decode prog_13_method_23_code 10 = .ok (.iconst 0, 1) := by decide +kernel
theorem kRF_part_d11 : decode prog_13_method_23_code 11 = .ok (.istore 7, 2) := by decide +kernel
theorem kRF_part_d13 : decode prog_13_method_23_code 13 = .ok (.iload 7, 2) := by decide +kernel
theorem kRF_part_d15 : decode prog_13_method_23_code 15 = .ok (.iload 4, 2) := by decide +kernel
theorem kRF_part_d17 : decode prog_13_method_23_code 17 = .ok (.iload 5, 2) := by decide +kernel
theorem kRF_part_d19 : decode prog_13_method_23_code 19 = .ok (.imul, 1) := by decide +kernel
theorem kRF_part_d20 : decode prog_13_method_23_code 20 = .ok (.if_icmp .ge 39, 3) := by decide +kernel
theorem kRF_part_d23 : decode prog_13_method_23_code 23 = .ok (.aload_n 0, 1) := by decide +kernel
theorem kRF_part_d24 : decode prog_13_method_23_code 24 = .ok (.iload 6, 2) := by decide +kernel
theorem kRF_part_d26 : decode prog_13_method_23_code 26 = .ok (.iload 7, 2) := by decide +kernel
theorem kRF_part_d28 : decode prog_13_method_23_code 28 = .ok (.iload_n 1, 1) := by decide +kernel
theorem kRF_part_d29 : decode prog_13_method_23_code 29 = .ok (.iload_n 2, 1) := by decide +kernel
theorem kRF_part_d30 : decode prog_13_method_23_code 30 = .ok (.iload 7, 2) := by decide +kernel
theorem kRF_part_d32 : decode prog_13_method_23_code 32 = .ok (.iload 5, 2) := by decide +kernel
theorem kRF_part_d34 : decode prog_13_method_23_code 34 = .ok (.idiv, 1) := by decide +kernel
theorem kRF_part_d35 : decode prog_13_method_23_code 35 = .ok (.iadd, 1) := by decide +kernel
theorem kRF_part_d36 : decode prog_13_method_23_code 36 = .ok (.aload_n 0, 1) := by decide +kernel
theorem kRF_part_d37 : decode prog_13_method_23_code 37 = .ok (.iload_n 1, 1) := by decide +kernel
theorem kRF_part_d38 : decode prog_13_method_23_code 38 = .ok (.invokevirtual 112, 3) := by decide +kernel
theorem kRF_part_d41 : decode prog_13_method_23_code 41 = .ok (.imul, 1) := by decide +kernel
theorem kRF_part_d42 : decode prog_13_method_23_code 42 = .ok (.iload_n 3, 1) := by decide +kernel
theorem kRF_part_d43 : decode prog_13_method_23_code 43 = .ok (.iadd, 1) := by decide +kernel
theorem kRF_part_d44 : decode prog_13_method_23_code 44 = .ok (.iload 7, 2) := by decide +kernel
theorem kRF_part_d46 : decode prog_13_method_23_code 46 = .ok (.iload 5, 2) := by decide +kernel
theorem kRF_part_d48 : decode prog_13_method_23_code 48 = .ok (.irem, 1) := by decide +kernel
theorem kRF_part_d49 : decode prog_13_method_23_code 49 = .ok (.iadd, 1) := by decide +kernel
theorem kRF_part_d50 : decode prog_13_method_23_code 50 = .ok (.invokevirtual 124, 3) := by decide +kernel
theorem kRF_part_d53 : decode prog_13_method_23_code 53 = .ok (.iinc 7 1, 3) := by decide +kernel
theorem kRF_part_d56 : decode prog_13_method_23_code 56 = .ok (.goto (-43), 3) := by decide +kernel
theorem kRF_part_d59 : decode prog_13_method_23_code 59 = .ok (.iload 6, 2) := by decide +kernel
theorem kRF_part_d61 : decode prog_13_method_23_code 61 = .ok (.ireturn, 1) := by decide +kernel
theorem kRF_copy_d0 : decode prog_13_method_19_code 0 = .ok (.aload_n 0, 1) := by decide +kernel
theorem kRF_copy_d1 : decode prog_13_method_19_code 1 = .ok (.aload_n 0, 1) := by decide +kernel
theorem kRF_copy_d2 : decode prog_13_method_19_code 2 = .ok (.iload_n 1, 1) := by decide +kernel
theorem kRF_copy_d3 : decode prog_13_method_19_code 3 = .ok (.invokevirtual 118, 3) := by decide +kernel
theorem kRF_copy_d6 : decode prog_13_method_19_code 6 = .ok (.aload_n 0, 1) := by decide +kernel
theorem kRF_copy_d7 : decode prog_13_method_19_code 7 = .ok (.iload_n 1, 1) := by decide +kernel
theorem kRF_copy_d8 : decode prog_13_method_19_code 8 = .ok (.invokevirtual 112, 3) := by decide +kernel
theorem kRF_copy_d11 : decode prog_13_method_19_code 11 = .ok (.invokevirtual 121, 3) := by decide +kernel
theorem kRF_copy_d14 : decode prog_13_method_19_code 14 = .ok (.istore_n 2, 1) := by decide +kernel
theorem kRF_copy_d15 : decode prog_13_method_19_code 15 = .ok (.iconst 0, 1) := by decide +kernel
theorem kRF_copy_d16 : decode prog_13_method_19_code 16 = .ok (.istore_n 3, 1) := by decide +kernel
theorem kRF_copy_d17 : decode prog_13_method_19_code 17 = .ok (.iload_n 3, 1) := by decide +kernel
theorem kRF_copy_d18 : decode prog_13_method_19_code 18 = .ok (.aload_n 0, 1) := by decide +kernel
theorem kRF_copy_d19 : decode prog_13_method_19_code 19 = .ok (.iload_n 1, 1) := by decide +kernel
theorem kRF_copy_d20 : decode prog_13_method_19_code 20 = .ok (.invokevirtual 64, 3) := by decide +kernel
theorem kRF_copy_d23 : decode prog_13_method_19_code 23 = .ok (.if_icmp .ge 17, 3) := by decide +kernel
theorem kRF_copy_d26 : decode prog_13_method_19_code 26 = .ok (.aload_n 0, 1) := by decide +kernel
theorem kRF_copy_d27 : decode prog_13_method_19_code 27 = .ok (.iload_n 2, 1) := by decide +kernel
theorem kRF_copy_d28 : decode prog_13_method_19_code 28 = .ok (.iload_n 3, 1) := by decide +kernel
theorem kRF_copy_d29 : decode prog_13_method_19_code 29 = .ok (.iload_n 1, 1) := by decide +kernel
theorem kRF_copy_d30 : decode prog_13_method_19_code 30 = .ok (.iload_n 3, 1) := by decide +kernel
theorem kRF_copy_d31 : decode prog_13_method_19_code 31 = .ok (.invokevirtual 124, 3) := by decide +kernel
theorem kRF_copy_d34 : decode prog_13_method_19_code 34 = .ok (.iinc 3 1, 3) := by decide +kernel
theorem kRF_copy_d37 : decode prog_13_method_19_code 37 = .ok (.goto (-20), 3) := by decide +kernel
theorem kRF_copy_d40 : decode prog_13_method_19_code 40 = .ok (.iload_n 2, 1) := by decide +kernel
theorem kRF_copy_d41 : decode prog_13_method_19_code 41 = .ok (.ireturn, 1) := by decide +kernel
theorem kRF_echelon_d0 : decode prog_13_method_28_code 0 = .ok (.iload_n 1, 1) := by decide +kernel
theorem kRF_echelon_d1 : decode prog_13_method_28_code 1 = .ok (.istore 4, 2) := by decide +kernel
theorem kRF_echelon_d3 : decode prog_13_method_28_code 3 = .ok (.aload_n 0, 1) := by decide +kernel
theorem kRF_echelon_d4 : decode prog_13_method_28_code 4 = .ok (.iconst 0, 1) := by decide +kernel
theorem kRF_echelon_d5 : decode prog_13_method_28_code 5 = .ok (.putfield 145, 3) := by decide +kernel
theorem kRF_echelon_d8 : decode prog_13_method_28_code 8 = .ok (.iconst 0, 1) := by decide +kernel
theorem kRF_echelon_d9 : decode prog_13_method_28_code 9 = .ok (.istore 5, 2) := by decide +kernel
theorem kRF_echelon_d11 : decode prog_13_method_28_code 11 = .ok (.iload 5, 2) := by decide +kernel
theorem kRF_echelon_d13 : decode prog_13_method_28_code 13 = .ok (.iload_n 3, 1) := by decide +kernel
theorem kRF_echelon_d14 : decode prog_13_method_28_code 14 = .ok (.if_icmp .ge 118, 3) := by decide +kernel
theorem kRF_echelon_d17 : decode prog_13_method_28_code 17 = .ok (.aload_n 0, 1) := by decide +kernel
theorem kRF_echelon_d18 : decode prog_13_method_28_code 18 = .ok (.getfield 145, 3) := by decide +kernel
theorem kRF_echelon_d21 : decode prog_13_method_28_code 21 = .ok (.aload_n 0, 1) := by decide +kernel
theorem kRF_echelon_d22 : decode prog_13_method_28_code 22 = .ok (.iload 4, 2) := by decide +kernel
theorem kRF_echelon_d24 : decode prog_13_method_28_code 24 = .ok (.invokevirtual 118, 3) := by decide +kernel
theorem kRF_echelon_d27 : decode prog_13_method_28_code 27 = .ok (.if_icmp .ge 105, 3) := by decide +kernel
theorem kRF_echelon_d30 : decode prog_13_method_28_code 30 = .ok (.aload_n 0, 1) := by decide +kernel
theorem kRF_echelon_d31 : decode prog_13_method_28_code 31 = .ok (.getfield 145, 3) := by decide +kernel
theorem kRF_echelon_d34 : decode prog_13_method_28_code 34 = .ok (.istore 6, 2) := by decide +kernel
theorem kRF_echelon_d36 : decode prog_13_method_28_code 36 = .ok (.iload 6, 2) := by decide +kernel
theorem kRF_echelon_d38 : decode prog_13_method_28_code 38 = .ok (.aload_n 0, 1) := by decide +kernel
theorem kRF_echelon_d39 : decode prog_13_method_28_code 39 = .ok (.iload 4, 2) := by decide +kernel
theorem kRF_echelon_d41 : decode prog_13_method_28_code 41 = .ok (.invokevirtual 118, 3) := by decide +kernel
theorem kRF_echelon_d44 : decode prog_13_method_28_code 44 = .ok (.if_icmp .ge 30, 3) := by decide +kernel
theorem kRF_echelon_d47 : decode prog_13_method_28_code 47 = .ok (.aload_n 0, 1) := by decide +kernel
theorem kRF_echelon_d48 : decode prog_13_method_28_code 48 = .ok (.iload 4, 2) := by decide +kernel
theorem kRF_echelon_d50 : decode prog_13_method_28_code 50 = .ok (.iload 6, 2) := by decide +kernel
theorem kRF_echelon_d52 : decode prog_13_method_28_code 52 = .ok (.aload_n 0, 1) := by decide +kernel
theorem kRF_echelon_d53 : decode prog_13_method_28_code 53 = .ok (.iload 4, 2) := by decide +kernel
theorem kRF_echelon_d55 : decode prog_13_method_28_code 55 = .ok (.invokevirtual 112, 3) := by decide +kernel
theorem kRF_echelon_d58 : decode prog_13_method_28_code 58 = .ok (.imul, 1) := by decide +kernel
theorem kRF_echelon_d59 : decode prog_13_method_28_code 59 = .ok (.iload 5, 2) := by decide +kernel
theorem kRF_echelon_d61 : decode prog_13_method_28_code 61 = .ok (.iadd, 1) := by decide +kernel
theorem kRF_echelon_d62 : decode prog_13_method_28_code 62 = .ok (.invokevirtual 43, 3) := by decide +kernel
theorem kRF_echelon_d65 : decode prog_13_method_28_code 65 = .ok (.ifCond .ne 9, 3) := by decide +kernel
theorem kRF_echelon_d68 : decode prog_13_method_28_code 68 = .ok (.iinc 6 1, 3) := by decide +kernel
theorem kRF_echelon_d71 : decode prog_13_method_28_code 71 = .ok (.goto (-35), 3) := by decide +kernel
theorem kRF_echelon_d74 : decode prog_13_method_28_code 74 = .ok (.iload 6, 2) := by decide +kernel
theorem kRF_echelon_d76 : decode prog_13_method_28_code 76 = .ok (.aload_n 0, 1) := by decide +kernel
theorem kRF_echelon_d77 : decode prog_13_method_28_code 77 = .ok (.iload 4, 2) := by decide +kernel
theorem kRF_echelon_d79 : decode prog_13_method_28_code 79 = .ok (.invokevirtual 118, 3) := by decide +kernel
theorem kRF_echelon_d82 : decode prog_13_method_28_code 82 = .ok (.if_icmp .ne 6, 3) := by decide +kernel
theorem kRF_echelon_d85 : decode prog_13_method_28_code 85 = .ok (.goto 41, 3) := by decide +kernel
theorem kRF_echelon_d88 : decode prog_13_method_28_code 88 = .ok (.aload_n 0, 1) := by decide +kernel
theorem kRF_echelon_d89 : decode prog_13_method_28_code 89 = .ok (.iload 4, 2) := by decide +kernel
theorem kRF_echelon_d91 : decode prog_13_method_28_code 91 = .ok (.iload_n 2, 1) := by decide +kernel
theorem kRF_echelon_d92 : decode prog_13_method_28_code 92 = .ok (.aload_n 0, 1) := by decide +kernel
theorem kRF_echelon_d93 : decode prog_13_method_28_code 93 = .ok (.getfield 145, 3) := by decide +kernel
theorem kRF_echelon_d96 : decode prog_13_method_28_code 96 = .ok (.iload 6, 2) := by decide +kernel
theorem kRF_echelon_d98 : decode prog_13_method_28_code 98 = .ok (.iload 5, 2) := by decide +kernel
theorem kRF_echelon_d100 : decode prog_13_method_28_code 100 = .ok (.invokevirtual 148, 3) := by decide +kernel
theorem kRF_echelon_d103 : decode prog_13_method_28_code 103 = .ok (.istore 4, 2) := by decide +kernel
theorem kRF_echelon_d105 : decode prog_13_method_28_code 105 = .ok (.aload_n 0, 1) := by decide +kernel
theorem kRF_echelon_d106 : decode prog_13_method_28_code 106 = .ok (.getfield 20, 3) := by decide +kernel
theorem kRF_echelon_d109 : decode prog_13_method_28_code 109 = .ok (.aload_n 0, 1) := by decide +kernel
theorem kRF_echelon_d110 : decode prog_13_method_28_code 110 = .ok (.getfield 145, 3) := by decide +kernel
theorem kRF_echelon_d113 : decode prog_13_method_28_code 113 = .ok (.iload 5, 2) := by decide +kernel
theorem kRF_echelon_d115 : decode prog_13_method_28_code 115 = .ok (.iastore, 1) := by decide +kernel
theorem kRF_echelon_d116 : decode prog_13_method_28_code 116 = .ok (.aload_n 0, 1) := by decide +kernel
theorem kRF_echelon_d117 : decode prog_13_method_28_code 117 = .ok (.dup, 1) := by decide +kernel
theorem kRF_echelon_d118 : decode prog_13_method_28_code 118 = .ok (.getfield 145, 3) := by decide +kernel
theorem kRF_echelon_d121 : decode prog_13_method_28_code 121 = .ok (.iconst 1, 1) := by decide +kernel
theorem kRF_echelon_d122 : decode prog_13_method_28_code 122 = .ok (.iadd, 1) := by decide +kernel
theorem kRF_echelon_d123 : decode prog_13_method_28_code 123 = .ok (.putfield 145, 3) := by decide +kernel
theorem kRF_echelon_d126 : decode prog_13_method_28_code 126 = .ok (.iinc 5 1, 3) := by decide +kernel
theorem kRF_echelon_d129 : decode prog_13_method_28_code 129 = .ok (.goto (-118), 3) := by decide +kernel
theorem kRF_echelon_d132 : decode prog_13_method_28_code 132 = .ok (.iload 4, 2) := by decide +kernel
theorem kRF_echelon_d134 : decode prog_13_method_28_code 134 = .ok (.ireturn, 1) := by decide +kernel
theorem kRF_cleared_d0 : decode prog_13_method_29_code 0 = .ok (.aload_n 0, 1) := by decide +kernel
theorem kRF_cleared_d1 : decode prog_13_method_29_code 1 = .ok (.getfield 10, 3) := by decide +kernel
theorem kRF_cleared_d4 : decode prog_13_method_29_code 4 = .ok (.getfield 26, 3) := by decide +kernel
theorem kRF_cleared_d7 : decode prog_13_method_29_code 7 = .ok (.istore 6, 2) := by decide +kernel
theorem kRF_cleared_d9 : decode prog_13_method_29_code 9 = .ok (.aload_n 0, 1) := by decide +kernel
theorem kRF_cleared_d10 : decode prog_13_method_29_code 10 = .ok (.iload_n 1, 1) := by decide +kernel
theorem kRF_cleared_d11 : decode prog_13_method_29_code 11 = .ok (.invokevirtual 112, 3) := by decide +kernel
theorem kRF_cleared_d14 : decode prog_13_method_29_code 14 = .ok (.istore 7, 2) := by decide +kernel
theorem kRF_cleared_d16 : decode prog_13_method_29_code 16 = .ok (.aload_n 0, 1) := by decide +kernel
theorem kRF_cleared_d17 : decode prog_13_method_29_code 17 = .ok (.aload_n 0, 1) := by decide +kernel
theorem kRF_cleared_d18 : decode prog_13_method_29_code 18 = .ok (.iload_n 1, 1) := by decide +kernel
theorem kRF_cleared_d19 : decode prog_13_method_29_code 19 = .ok (.invokevirtual 118, 3) := by decide +kernel
theorem kRF_cleared_d22 : decode prog_13_method_29_code 22 = .ok (.iload 7, 2) := by decide +kernel
theorem kRF_cleared_d24 : decode prog_13_method_29_code 24 = .ok (.invokevirtual 121, 3) := by decide +kernel
theorem kRF_cleared_d27 : decode prog_13_method_29_code 27 = .ok (.istore 8, 2) := by decide +kernel
theorem kRF_cleared_d29 : decode prog_13_method_29_code 29 = .ok (.iload 4, 2) := by decide +kernel
theorem kRF_cleared_d31 : decode prog_13_method_29_code 31 = .ok (.iload 7, 2) := by decide +kernel
theorem kRF_cleared_d33 : decode prog_13_method_29_code 33 = .ok (.imul, 1) := by decide +kernel
theorem kRF_cleared_d34 : decode prog_13_method_29_code 34 = .ok (.iload 5, 2) := by decide +kernel
theorem kRF_cleared_d36 : decode prog_13_method_29_code 36 = .ok (.iadd, 1) := by decide +kernel
theorem kRF_cleared_d37 : decode prog_13_method_29_code 37 = .ok (.istore 9, 2) := by decide +kernel
theorem kRF_cleared_d39 : decode prog_13_method_29_code 39 = .ok (.iconst 0, 1) := by decide +kernel
theorem kRF_cleared_d40 : decode prog_13_method_29_code 40 = .ok (.istore 10, 2) := by decide +kernel
theorem kRF_cleared_d42 : decode prog_13_method_29_code 42 = .ok (.iconst 1, 1) := by decide +kernel
theorem kRF_cleared_d43 : decode prog_13_method_29_code 43 = .ok (.istore 11, 2) := by decide +kernel
theorem kRF_cleared_d45 : decode prog_13_method_29_code 45 = .ok (.iconst 0, 1) := by decide +kernel
theorem kRF_cleared_d46 : decode prog_13_method_29_code 46 = .ok (.istore 12, 2) := by decide +kernel
theorem kRF_cleared_d48 : decode prog_13_method_29_code 48 = .ok (.iload 12, 2) := by decide +kernel
theorem kRF_cleared_d50 : decode prog_13_method_29_code 50 = .ok (.aload_n 0, 1) := by decide +kernel
theorem kRF_cleared_d51 : decode prog_13_method_29_code 51 = .ok (.iload_n 1, 1) := by decide +kernel
theorem kRF_cleared_d52 : decode prog_13_method_29_code 52 = .ok (.invokevirtual 64, 3) := by decide +kernel
theorem kRF_cleared_d55 : decode prog_13_method_29_code 55 = .ok (.if_icmp .ge 305, 3) := by decide +kernel
theorem kRF_cleared_d58 : decode prog_13_method_29_code 58 = .ok (.iload 12, 2) := by decide +kernel
theorem kRF_cleared_d60 : decode prog_13_method_29_code 60 = .ok (.iload 7, 2) := by decide +kernel
theorem kRF_cleared_d62 : decode prog_13_method_29_code 62 = .ok (.idiv, 1) := by decide +kernel
theorem kRF_cleared_d63 : decode prog_13_method_29_code 63 = .ok (.istore 13, 2) := by decide +kernel
theorem kRF_cleared_d65 : decode prog_13_method_29_code 65 = .ok (.iload 13, 2) := by decide +kernel
theorem kRF_cleared_d67 : decode prog_13_method_29_code 67 = .ok (.iload_n 3, 1) := by decide +kernel
theorem kRF_cleared_d68 : decode prog_13_method_29_code 68 = .ok (.if_icmp .ne 8, 3) := by decide +kernel
theorem kRF_cleared_d71 : decode prog_13_method_29_code 71 = .ok (.iload 4, 2) := by decide +kernel
theorem kRF_cleared_d73 : decode prog_13_method_29_code 73 = .ok (.goto 16, 3) := by decide +kernel
theorem kRF_cleared_d76 : decode prog_13_method_29_code 76 = .ok (.iload 13, 2) := by decide +kernel
theorem kRF_cleared_d78 : decode prog_13_method_29_code 78 = .ok (.iload 4, 2) := by decide +kernel
theorem kRF_cleared_d80 : decode prog_13_method_29_code 80 = .ok (.if_icmp .ne 7, 3) := by decide +kernel
theorem kRF_cleared_d83 : decode prog_13_method_29_code 83 = .ok (.iload_n 3, 1) := by decide +kernel
theorem kRF_cleared_d84 : decode prog_13_method_29_code 84 = .ok (.goto 5, 3) := by decide +kernel
theorem kRF_cleared_d87 : decode prog_13_method_29_code 87 = .ok (.iload 13, 2) := by decide +kernel
theorem kRF_cleared_d89 : decode prog_13_method_29_code 89 = .ok (.istore 14, 2) := by decide +kernel
theorem kRF_cleared_d91 : decode prog_13_method_29_code 91 = .ok (.iload 12, 2) := by decide +kernel
theorem kRF_cleared_d93 : decode prog_13_method_29_code 93 = .ok (.iload 7, 2) := by decide +kernel
theorem kRF_cleared_d95 : decode prog_13_method_29_code 95 = .ok (.irem, 1) := by decide +kernel
theorem kRF_cleared_d96 : decode prog_13_method_29_code 96 = .ok (.istore 15, 2) := by decide +kernel
theorem kRF_cleared_d98 : decode prog_13_method_29_code 98 = .ok (.iload 15, 2) := by decide +kernel
theorem kRF_cleared_d100 : decode prog_13_method_29_code 100 = .ok (.ifCond .ne 81, 3) := by decide +kernel
theorem kRF_cleared_d103 : decode prog_13_method_29_code 103 = .ok (.iload 13, 2) := by decide +kernel
theorem kRF_cleared_d105 : decode prog_13_method_29_code 105 = .ok (.iload_n 3, 1) := by decide +kernel
theorem kRF_cleared_d106 : decode prog_13_method_29_code 106 = .ok (.if_icmp .eq 75, 3) := by decide +kernel
theorem kRF_cleared_d109 : decode prog_13_method_29_code 109 = .ok (.aload_n 0, 1) := by decide +kernel
theorem kRF_cleared_d110 : decode prog_13_method_29_code 110 = .ok (.iload_n 1, 1) := by decide +kernel
theorem kRF_cleared_d111 : decode prog_13_method_29_code 111 = .ok (.iload 14, 2) := by decide +kernel
theorem kRF_cleared_d113 : decode prog_13_method_29_code 113 = .ok (.iload 7, 2) := by decide +kernel
theorem kRF_cleared_d115 : decode prog_13_method_29_code 115 = .ok (.imul, 1) := by decide +kernel
theorem kRF_cleared_d116 : decode prog_13_method_29_code 116 = .ok (.iload 5, 2) := by decide +kernel
theorem kRF_cleared_d118 : decode prog_13_method_29_code 118 = .ok (.iadd, 1) := by decide +kernel
theorem kRF_cleared_d119 : decode prog_13_method_29_code 119 = .ok (.invokevirtual 43, 3) := by decide +kernel
theorem kRF_cleared_d122 : decode prog_13_method_29_code 122 = .ok (.ifCond .eq 59, 3) := by decide +kernel
theorem kRF_cleared_d125 : decode prog_13_method_29_code 125 = .ok (.aload_n 0, 1) := by decide +kernel
theorem kRF_cleared_d126 : decode prog_13_method_29_code 126 = .ok (.aload_n 0, 1) := by decide +kernel
theorem kRF_cleared_d127 : decode prog_13_method_29_code 127 = .ok (.iload_n 1, 1) := by decide +kernel
theorem kRF_cleared_d128 : decode prog_13_method_29_code 128 = .ok (.iload 14, 2) := by decide +kernel
theorem kRF_cleared_d130 : decode prog_13_method_29_code 130 = .ok (.iload 7, 2) := by decide +kernel
theorem kRF_cleared_d132 : decode prog_13_method_29_code 132 = .ok (.imul, 1) := by decide +kernel
theorem kRF_cleared_d133 : decode prog_13_method_29_code 133 = .ok (.iload 5, 2) := by decide +kernel
theorem kRF_cleared_d135 : decode prog_13_method_29_code 135 = .ok (.iadd, 1) := by decide +kernel
theorem kRF_cleared_d136 : decode prog_13_method_29_code 136 = .ok (.invokevirtual 43, 3) := by decide +kernel
theorem kRF_cleared_d139 : decode prog_13_method_29_code 139 = .ok (.aload_n 0, 1) := by decide +kernel
theorem kRF_cleared_d140 : decode prog_13_method_29_code 140 = .ok (.iload_n 1, 1) := by decide +kernel
theorem kRF_cleared_d141 : decode prog_13_method_29_code 141 = .ok (.iload 14, 2) := by decide +kernel
theorem kRF_cleared_d143 : decode prog_13_method_29_code 143 = .ok (.iload 7, 2) := by decide +kernel
theorem kRF_cleared_d145 : decode prog_13_method_29_code 145 = .ok (.imul, 1) := by decide +kernel
theorem kRF_cleared_d146 : decode prog_13_method_29_code 146 = .ok (.iload 5, 2) := by decide +kernel
theorem kRF_cleared_d148 : decode prog_13_method_29_code 148 = .ok (.iadd, 1) := by decide +kernel
theorem kRF_cleared_d149 : decode prog_13_method_29_code 149 = .ok (.invokevirtual 51, 3) := by decide +kernel
theorem kRF_cleared_d152 : decode prog_13_method_29_code 152 = .ok (.aload_n 0, 1) := by decide +kernel
theorem kRF_cleared_d153 : decode prog_13_method_29_code 153 = .ok (.iload_n 1, 1) := by decide +kernel
theorem kRF_cleared_d154 : decode prog_13_method_29_code 154 = .ok (.iload 9, 2) := by decide +kernel
theorem kRF_cleared_d156 : decode prog_13_method_29_code 156 = .ok (.invokevirtual 43, 3) := by decide +kernel
theorem kRF_cleared_d159 : decode prog_13_method_29_code 159 = .ok (.aload_n 0, 1) := by decide +kernel
theorem kRF_cleared_d160 : decode prog_13_method_29_code 160 = .ok (.iload_n 1, 1) := by decide +kernel
theorem kRF_cleared_d161 : decode prog_13_method_29_code 161 = .ok (.iload 9, 2) := by decide +kernel
theorem kRF_cleared_d163 : decode prog_13_method_29_code 163 = .ok (.invokevirtual 51, 3) := by decide +kernel
theorem kRF_cleared_d166 : decode prog_13_method_29_code 166 = .ok (.invokevirtual 152, 3) := by decide +kernel
theorem kRF_cleared_d169 : decode prog_13_method_29_code 169 = .ok (.aload_n 0, 1) := by decide +kernel
theorem kRF_cleared_d170 : decode prog_13_method_29_code 170 = .ok (.getfield 37, 3) := by decide +kernel
theorem kRF_cleared_d173 : decode prog_13_method_29_code 173 = .ok (.istore 10, 2) := by decide +kernel
theorem kRF_cleared_d175 : decode prog_13_method_29_code 175 = .ok (.aload_n 0, 1) := by decide +kernel
theorem kRF_cleared_d176 : decode prog_13_method_29_code 176 = .ok (.getfield 40, 3) := by decide +kernel
theorem kRF_cleared_d179 : decode prog_13_method_29_code 179 = .ok (.istore 11, 2) := by decide +kernel
theorem kRF_cleared_d181 : decode prog_13_method_29_code 181 = .ok (.iload 13, 2) := by decide +kernel
theorem kRF_cleared_d183 : decode prog_13_method_29_code 183 = .ok (.iload_n 3, 1) := by decide +kernel
theorem kRF_cleared_d184 : decode prog_13_method_29_code 184 = .ok (.if_icmp .ne 50, 3) := by decide +kernel
theorem kRF_cleared_d187 : decode prog_13_method_29_code 187 = .ok (.aload_n 0, 1) := by decide +kernel
theorem kRF_cleared_d188 : decode prog_13_method_29_code 188 = .ok (.aload_n 0, 1) := by decide +kernel
theorem kRF_cleared_d189 : decode prog_13_method_29_code 189 = .ok (.iload_n 1, 1) := by decide +kernel
theorem kRF_cleared_d190 : decode prog_13_method_29_code 190 = .ok (.iload 4, 2) := by decide +kernel
theorem kRF_cleared_d192 : decode prog_13_method_29_code 192 = .ok (.iload 7, 2) := by decide +kernel
theorem kRF_cleared_d194 : decode prog_13_method_29_code 194 = .ok (.imul, 1) := by decide +kernel
theorem kRF_cleared_d195 : decode prog_13_method_29_code 195 = .ok (.iload 15, 2) := by decide +kernel
theorem kRF_cleared_d197 : decode prog_13_method_29_code 197 = .ok (.iadd, 1) := by decide +kernel
theorem kRF_cleared_d198 : decode prog_13_method_29_code 198 = .ok (.invokevirtual 43, 3) := by decide +kernel
theorem kRF_cleared_d201 : decode prog_13_method_29_code 201 = .ok (.aload_n 0, 1) := by decide +kernel
theorem kRF_cleared_d202 : decode prog_13_method_29_code 202 = .ok (.iload_n 1, 1) := by decide +kernel
theorem kRF_cleared_d203 : decode prog_13_method_29_code 203 = .ok (.iload 4, 2) := by decide +kernel
theorem kRF_cleared_d205 : decode prog_13_method_29_code 205 = .ok (.iload 7, 2) := by decide +kernel
theorem kRF_cleared_d207 : decode prog_13_method_29_code 207 = .ok (.imul, 1) := by decide +kernel
theorem kRF_cleared_d208 : decode prog_13_method_29_code 208 = .ok (.iload 15, 2) := by decide +kernel
theorem kRF_cleared_d210 : decode prog_13_method_29_code 210 = .ok (.iadd, 1) := by decide +kernel
theorem kRF_cleared_d211 : decode prog_13_method_29_code 211 = .ok (.invokevirtual 51, 3) := by decide +kernel
theorem kRF_cleared_d214 : decode prog_13_method_29_code 214 = .ok (.aload_n 0, 1) := by decide +kernel
theorem kRF_cleared_d215 : decode prog_13_method_29_code 215 = .ok (.iload_n 1, 1) := by decide +kernel
theorem kRF_cleared_d216 : decode prog_13_method_29_code 216 = .ok (.iload 9, 2) := by decide +kernel
theorem kRF_cleared_d218 : decode prog_13_method_29_code 218 = .ok (.invokevirtual 43, 3) := by decide +kernel
theorem kRF_cleared_d221 : decode prog_13_method_29_code 221 = .ok (.aload_n 0, 1) := by decide +kernel
theorem kRF_cleared_d222 : decode prog_13_method_29_code 222 = .ok (.iload_n 1, 1) := by decide +kernel
theorem kRF_cleared_d223 : decode prog_13_method_29_code 223 = .ok (.iload 9, 2) := by decide +kernel
theorem kRF_cleared_d225 : decode prog_13_method_29_code 225 = .ok (.invokevirtual 51, 3) := by decide +kernel
theorem kRF_cleared_d228 : decode prog_13_method_29_code 228 = .ok (.invokevirtual 152, 3) := by decide +kernel
theorem kRF_cleared_d231 : decode prog_13_method_29_code 231 = .ok (.goto 115, 3) := by decide +kernel
theorem kRF_cleared_d234 : decode prog_13_method_29_code 234 = .ok (.aload_n 0, 1) := by decide +kernel
theorem kRF_cleared_d235 : decode prog_13_method_29_code 235 = .ok (.iload_n 1, 1) := by decide +kernel
theorem kRF_cleared_d236 : decode prog_13_method_29_code 236 = .ok (.iload 14, 2) := by decide +kernel
theorem kRF_cleared_d238 : decode prog_13_method_29_code 238 = .ok (.iload 7, 2) := by decide +kernel
theorem kRF_cleared_d240 : decode prog_13_method_29_code 240 = .ok (.imul, 1) := by decide +kernel
theorem kRF_cleared_d241 : decode prog_13_method_29_code 241 = .ok (.iload 5, 2) := by decide +kernel
theorem kRF_cleared_d243 : decode prog_13_method_29_code 243 = .ok (.iadd, 1) := by decide +kernel
theorem kRF_cleared_d244 : decode prog_13_method_29_code 244 = .ok (.invokevirtual 43, 3) := by decide +kernel
theorem kRF_cleared_d247 : decode prog_13_method_29_code 247 = .ok (.ifCond .eq 19, 3) := by decide +kernel
theorem kRF_cleared_d250 : decode prog_13_method_29_code 250 = .ok (.aload_n 0, 1) := by decide +kernel
theorem kRF_cleared_d251 : decode prog_13_method_29_code 251 = .ok (.iload_n 1, 1) := by decide +kernel
theorem kRF_cleared_d252 : decode prog_13_method_29_code 252 = .ok (.iload 4, 2) := by decide +kernel
theorem kRF_cleared_d254 : decode prog_13_method_29_code 254 = .ok (.iload 7, 2) := by decide +kernel
theorem kRF_cleared_d256 : decode prog_13_method_29_code 256 = .ok (.imul, 1) := by decide +kernel
theorem kRF_cleared_d257 : decode prog_13_method_29_code 257 = .ok (.iload 15, 2) := by decide +kernel
theorem kRF_cleared_d259 : decode prog_13_method_29_code 259 = .ok (.iadd, 1) := by decide +kernel
theorem kRF_cleared_d260 : decode prog_13_method_29_code 260 = .ok (.invokevirtual 43, 3) := by decide +kernel
theorem kRF_cleared_d263 : decode prog_13_method_29_code 263 = .ok (.ifCond .ne 23, 3) := by decide +kernel
theorem kRF_cleared_d266 : decode prog_13_method_29_code 266 = .ok (.aload_n 0, 1) := by decide +kernel
theorem kRF_cleared_d267 : decode prog_13_method_29_code 267 = .ok (.iload 8, 2) := by decide +kernel
theorem kRF_cleared_d269 : decode prog_13_method_29_code 269 = .ok (.iload 12, 2) := by decide +kernel
theorem kRF_cleared_d271 : decode prog_13_method_29_code 271 = .ok (.iload_n 1, 1) := by decide +kernel
theorem kRF_cleared_d272 : decode prog_13_method_29_code 272 = .ok (.iload 14, 2) := by decide +kernel
theorem kRF_cleared_d274 : decode prog_13_method_29_code 274 = .ok (.iload 7, 2) := by decide +kernel
theorem kRF_cleared_d276 : decode prog_13_method_29_code 276 = .ok (.imul, 1) := by decide +kernel
theorem kRF_cleared_d277 : decode prog_13_method_29_code 277 = .ok (.iload 15, 2) := by decide +kernel
theorem kRF_cleared_d279 : decode prog_13_method_29_code 279 = .ok (.iadd, 1) := by decide +kernel
theorem kRF_cleared_d280 : decode prog_13_method_29_code 280 = .ok (.invokevirtual 124, 3) := by decide +kernel
theorem kRF_cleared_d283 : decode prog_13_method_29_code 283 = .ok (.goto 71, 3) := by decide +kernel
theorem kRF_cleared_d286 : decode prog_13_method_29_code 286 = .ok (.aload_n 0, 1) := by decide +kernel
theorem kRF_cleared_d287 : decode prog_13_method_29_code 287 = .ok (.iload 10, 2) := by decide +kernel
theorem kRF_cleared_d289 : decode prog_13_method_29_code 289 = .ok (.iload 11, 2) := by decide +kernel
theorem kRF_cleared_d291 : decode prog_13_method_29_code 291 = .ok (.aload_n 0, 1) := by decide +kernel
theorem kRF_cleared_d292 : decode prog_13_method_29_code 292 = .ok (.iload_n 1, 1) := by decide +kernel
theorem kRF_cleared_d293 : decode prog_13_method_29_code 293 = .ok (.iload 4, 2) := by decide +kernel
theorem kRF_cleared_d295 : decode prog_13_method_29_code 295 = .ok (.iload 7, 2) := by decide +kernel
theorem kRF_cleared_d297 : decode prog_13_method_29_code 297 = .ok (.imul, 1) := by decide +kernel
theorem kRF_cleared_d298 : decode prog_13_method_29_code 298 = .ok (.iload 15, 2) := by decide +kernel
theorem kRF_cleared_d300 : decode prog_13_method_29_code 300 = .ok (.iadd, 1) := by decide +kernel
theorem kRF_cleared_d301 : decode prog_13_method_29_code 301 = .ok (.invokevirtual 43, 3) := by decide +kernel
theorem kRF_cleared_d304 : decode prog_13_method_29_code 304 = .ok (.aload_n 0, 1) := by decide +kernel
theorem kRF_cleared_d305 : decode prog_13_method_29_code 305 = .ok (.iload_n 1, 1) := by decide +kernel
theorem kRF_cleared_d306 : decode prog_13_method_29_code 306 = .ok (.iload 4, 2) := by decide +kernel
theorem kRF_cleared_d308 : decode prog_13_method_29_code 308 = .ok (.iload 7, 2) := by decide +kernel
theorem kRF_cleared_d310 : decode prog_13_method_29_code 310 = .ok (.imul, 1) := by decide +kernel
theorem kRF_cleared_d311 : decode prog_13_method_29_code 311 = .ok (.iload 15, 2) := by decide +kernel
theorem kRF_cleared_d313 : decode prog_13_method_29_code 313 = .ok (.iadd, 1) := by decide +kernel
theorem kRF_cleared_d314 : decode prog_13_method_29_code 314 = .ok (.invokevirtual 51, 3) := by decide +kernel
theorem kRF_cleared_d317 : decode prog_13_method_29_code 317 = .ok (.aload_n 0, 1) := by decide +kernel
theorem kRF_cleared_d318 : decode prog_13_method_29_code 318 = .ok (.iload_n 1, 1) := by decide +kernel
theorem kRF_cleared_d319 : decode prog_13_method_29_code 319 = .ok (.iload 14, 2) := by decide +kernel
theorem kRF_cleared_d321 : decode prog_13_method_29_code 321 = .ok (.iload 7, 2) := by decide +kernel
theorem kRF_cleared_d323 : decode prog_13_method_29_code 323 = .ok (.imul, 1) := by decide +kernel
theorem kRF_cleared_d324 : decode prog_13_method_29_code 324 = .ok (.iload 15, 2) := by decide +kernel
theorem kRF_cleared_d326 : decode prog_13_method_29_code 326 = .ok (.iadd, 1) := by decide +kernel
theorem kRF_cleared_d327 : decode prog_13_method_29_code 327 = .ok (.invokevirtual 43, 3) := by decide +kernel
theorem kRF_cleared_d330 : decode prog_13_method_29_code 330 = .ok (.aload_n 0, 1) := by decide +kernel
theorem kRF_cleared_d331 : decode prog_13_method_29_code 331 = .ok (.iload_n 1, 1) := by decide +kernel
theorem kRF_cleared_d332 : decode prog_13_method_29_code 332 = .ok (.iload 14, 2) := by decide +kernel
theorem kRF_cleared_d334 : decode prog_13_method_29_code 334 = .ok (.iload 7, 2) := by decide +kernel
theorem kRF_cleared_d336 : decode prog_13_method_29_code 336 = .ok (.imul, 1) := by decide +kernel
theorem kRF_cleared_d337 : decode prog_13_method_29_code 337 = .ok (.iload 15, 2) := by decide +kernel
theorem kRF_cleared_d339 : decode prog_13_method_29_code 339 = .ok (.iadd, 1) := by decide +kernel
theorem kRF_cleared_d340 : decode prog_13_method_29_code 340 = .ok (.invokevirtual 51, 3) := by decide +kernel
theorem kRF_cleared_d343 : decode prog_13_method_29_code 343 = .ok (.invokevirtual 154, 3) := by decide +kernel
theorem kRF_cleared_d346 : decode prog_13_method_29_code 346 = .ok (.aload_n 0, 1) := by decide +kernel
theorem kRF_cleared_d347 : decode prog_13_method_29_code 347 = .ok (.iload 8, 2) := by decide +kernel
theorem kRF_cleared_d349 : decode prog_13_method_29_code 349 = .ok (.iload 12, 2) := by decide +kernel
theorem kRF_cleared_d351 : decode prog_13_method_29_code 351 = .ok (.invokevirtual 54, 3) := by decide +kernel
theorem kRF_cleared_d354 : decode prog_13_method_29_code 354 = .ok (.iinc 12 1, 3) := by decide +kernel
theorem kRF_cleared_d357 : decode prog_13_method_29_code 357 = .ok (.goto (-309), 3) := by decide +kernel
theorem kRF_cleared_d360 : decode prog_13_method_29_code 360 = .ok (.aload_n 0, 1) := by decide +kernel
theorem kRF_cleared_d361 : decode prog_13_method_29_code 361 = .ok (.iload_n 2, 1) := by decide +kernel
theorem kRF_cleared_d362 : decode prog_13_method_29_code 362 = .ok (.iload_n 1, 1) := by decide +kernel
theorem kRF_cleared_d363 : decode prog_13_method_29_code 363 = .ok (.iload 6, 2) := by decide +kernel
theorem kRF_cleared_d365 : decode prog_13_method_29_code 365 = .ok (.iload 8, 2) := by decide +kernel
theorem kRF_cleared_d367 : decode prog_13_method_29_code 367 = .ok (.invokevirtual 141, 3) := by decide +kernel
theorem kRF_cleared_d370 : decode prog_13_method_29_code 370 = .ok (.ireturn, 1) := by decide +kernel
theorem kRF_less_d0 : decode prog_13_method_16_code 0 = .ok (.aload_n 0, 1) := by decide +kernel
theorem kRF_less_d1 : decode prog_13_method_16_code 1 = .ok (.getfield 10, 3) := by decide +kernel
theorem kRF_less_d4 : decode prog_13_method_16_code 4 = .ok (.getfield 26, 3) := by decide +kernel
theorem kRF_less_d7 : decode prog_13_method_16_code 7 = .ok (.istore 7, 2) := by decide +kernel
theorem kRF_less_d9 : decode prog_13_method_16_code 9 = .ok (.aload_n 0, 1) := by decide +kernel
theorem kRF_less_d10 : decode prog_13_method_16_code 10 = .ok (.getfield 10, 3) := by decide +kernel
theorem kRF_less_d13 : decode prog_13_method_16_code 13 = .ok (.iload_n 1, 1) := by decide +kernel
theorem kRF_less_d14 : decode prog_13_method_16_code 14 = .ok (.iload_n 3, 1) := by decide +kernel
theorem kRF_less_d15 : decode prog_13_method_16_code 15 = .ok (.invokevirtual 106, 3) := by decide +kernel
theorem kRF_less_d18 : decode prog_13_method_16_code 18 = .ok (.istore 8, 2) := by decide +kernel
theorem kRF_less_d20 : decode prog_13_method_16_code 20 = .ok (.iload_n 2, 1) := by decide +kernel
theorem kRF_less_d21 : decode prog_13_method_16_code 21 = .ok (.iconst 1, 1) := by decide +kernel
theorem kRF_less_d22 : decode prog_13_method_16_code 22 = .ok (.if_icmp .ne 8, 3) := by decide +kernel
theorem kRF_less_d25 : decode prog_13_method_16_code 25 = .ok (.iload 4, 2) := by decide +kernel
theorem kRF_less_d27 : decode prog_13_method_16_code 27 = .ok (.goto 23, 3) := by decide +kernel
theorem kRF_less_d30 : decode prog_13_method_16_code 30 = .ok (.iload 4, 2) := by decide +kernel
theorem kRF_less_d32 : decode prog_13_method_16_code 32 = .ok (.iconst 1, 1) := by decide +kernel
theorem kRF_less_d33 : decode prog_13_method_16_code 33 = .ok (.if_icmp .ne 7, 3) := by decide +kernel
theorem kRF_less_d36 : decode prog_13_method_16_code 36 = .ok (.iload_n 2, 1) := by decide +kernel
theorem kRF_less_d37 : decode prog_13_method_16_code 37 = .ok (.goto 13, 3) := by decide +kernel
theorem kRF_less_d40 : decode prog_13_method_16_code 40 = .ok (.aload_n 0, 1) := by decide +kernel
theorem kRF_less_d41 : decode prog_13_method_16_code 41 = .ok (.getfield 10, 3) := by decide +kernel
theorem kRF_less_d44 : decode prog_13_method_16_code 44 = .ok (.iload_n 2, 1) := by decide +kernel
theorem kRF_less_d45 : decode prog_13_method_16_code 45 = .ok (.iload 4, 2) := by decide +kernel
theorem kRF_less_d47 : decode prog_13_method_16_code 47 = .ok (.invokevirtual 106, 3) := by decide +kernel
theorem kRF_less_d50 : decode prog_13_method_16_code 50 = .ok (.istore 9, 2) := by decide +kernel
theorem kRF_less_d52 : decode prog_13_method_16_code 52 = .ok (.iload 9, 2) := by decide +kernel
theorem kRF_less_d54 : decode prog_13_method_16_code 54 = .ok (.iconst 1, 1) := by decide +kernel
theorem kRF_less_d55 : decode prog_13_method_16_code 55 = .ok (.if_icmp .ne 46, 3) := by decide +kernel
theorem kRF_less_d58 : decode prog_13_method_16_code 58 = .ok (.iload 6, 2) := by decide +kernel
theorem kRF_less_d60 : decode prog_13_method_16_code 60 = .ok (.iconst 1, 1) := by decide +kernel
theorem kRF_less_d61 : decode prog_13_method_16_code 61 = .ok (.if_icmp .ne 40, 3) := by decide +kernel
theorem kRF_less_d64 : decode prog_13_method_16_code 64 = .ok (.aload_n 0, 1) := by decide +kernel
theorem kRF_less_d65 : decode prog_13_method_16_code 65 = .ok (.aload_n 0, 1) := by decide +kernel
theorem kRF_less_d66 : decode prog_13_method_16_code 66 = .ok (.getfield 10, 3) := by decide +kernel
theorem kRF_less_d69 : decode prog_13_method_16_code 69 = .ok (.aload_n 0, 1) := by decide +kernel
theorem kRF_less_d70 : decode prog_13_method_16_code 70 = .ok (.getfield 10, 3) := by decide +kernel
theorem kRF_less_d73 : decode prog_13_method_16_code 73 = .ok (.aload_n 0, 1) := by decide +kernel
theorem kRF_less_d74 : decode prog_13_method_16_code 74 = .ok (.getfield 10, 3) := by decide +kernel
theorem kRF_less_d77 : decode prog_13_method_16_code 77 = .ok (.iload 5, 2) := by decide +kernel
theorem kRF_less_d79 : decode prog_13_method_16_code 79 = .ok (.iload 8, 2) := by decide +kernel
theorem kRF_less_d81 : decode prog_13_method_16_code 81 = .ok (.invokevirtual 100, 3) := by decide +kernel
theorem kRF_less_d84 : decode prog_13_method_16_code 84 = .ok (.invokevirtual 47, 3) := by decide +kernel
theorem kRF_less_d87 : decode prog_13_method_16_code 87 = .ok (.iload 7, 2) := by decide +kernel
theorem kRF_less_d89 : decode prog_13_method_16_code 89 = .ok (.invokevirtual 90, 3) := by decide +kernel
theorem kRF_less_d92 : decode prog_13_method_16_code 92 = .ok (.putfield 37, 3) := by decide +kernel
theorem kRF_less_d95 : decode prog_13_method_16_code 95 = .ok (.aload_n 0, 1) := by decide +kernel
theorem kRF_less_d96 : decode prog_13_method_16_code 96 = .ok (.iconst 1, 1) := by decide +kernel
theorem kRF_less_d97 : decode prog_13_method_16_code 97 = .ok (.putfield 40, 3) := by decide +kernel
theorem kRF_less_d100 : decode prog_13_method_16_code 100 = .ok (.return_, 1) := by decide +kernel
theorem kRF_less_d101 : decode prog_13_method_16_code 101 = .ok (.aload_n 0, 1) := by decide +kernel
theorem kRF_less_d102 : decode prog_13_method_16_code 102 = .ok (.iload 7, 2) := by decide +kernel
theorem kRF_less_d104 : decode prog_13_method_16_code 104 = .ok (.aload_n 0, 1) := by decide +kernel
theorem kRF_less_d105 : decode prog_13_method_16_code 105 = .ok (.getfield 10, 3) := by decide +kernel
theorem kRF_less_d108 : decode prog_13_method_16_code 108 = .ok (.aload_n 0, 1) := by decide +kernel
theorem kRF_less_d109 : decode prog_13_method_16_code 109 = .ok (.getfield 10, 3) := by decide +kernel
theorem kRF_less_d112 : decode prog_13_method_16_code 112 = .ok (.iload 5, 2) := by decide +kernel
theorem kRF_less_d114 : decode prog_13_method_16_code 114 = .ok (.iload 9, 2) := by decide +kernel
theorem kRF_less_d116 : decode prog_13_method_16_code 116 = .ok (.invokevirtual 106, 3) := by decide +kernel
theorem kRF_less_d119 : decode prog_13_method_16_code 119 = .ok (.aload_n 0, 1) := by decide +kernel
theorem kRF_less_d120 : decode prog_13_method_16_code 120 = .ok (.getfield 10, 3) := by decide +kernel
theorem kRF_less_d123 : decode prog_13_method_16_code 123 = .ok (.iload 8, 2) := by decide +kernel
theorem kRF_less_d125 : decode prog_13_method_16_code 125 = .ok (.iload 6, 2) := by decide +kernel
theorem kRF_less_d127 : decode prog_13_method_16_code 127 = .ok (.invokevirtual 106, 3) := by decide +kernel
theorem kRF_less_d130 : decode prog_13_method_16_code 130 = .ok (.invokevirtual 100, 3) := by decide +kernel
theorem kRF_less_d133 : decode prog_13_method_16_code 133 = .ok (.aload_n 0, 1) := by decide +kernel
theorem kRF_less_d134 : decode prog_13_method_16_code 134 = .ok (.getfield 10, 3) := by decide +kernel
theorem kRF_less_d137 : decode prog_13_method_16_code 137 = .ok (.iload 6, 2) := by decide +kernel
theorem kRF_less_d139 : decode prog_13_method_16_code 139 = .ok (.iload 9, 2) := by decide +kernel
theorem kRF_less_d141 : decode prog_13_method_16_code 141 = .ok (.invokevirtual 106, 3) := by decide +kernel
theorem kRF_less_d144 : decode prog_13_method_16_code 144 = .ok (.invokevirtual 109, 3) := by decide +kernel
theorem kRF_less_d147 : decode prog_13_method_16_code 147 = .ok (.return_, 1) := by decide +kernel
theorem kRF_determinant_d0 : decode prog_13_method_30_code 0 = .ok (.aload_n 0, 1) := by decide +kernel
theorem kRF_determinant_d1 : decode prog_13_method_30_code 1 = .ok (.getfield 10, 3) := by decide +kernel
theorem kRF_determinant_d4 : decode prog_13_method_30_code 4 = .ok (.getfield 26, 3) := by decide +kernel
theorem kRF_determinant_d7 : decode prog_13_method_30_code 7 = .ok (.istore_n 2, 1) := by decide +kernel
theorem kRF_determinant_d8 : decode prog_13_method_30_code 8 = .ok (.aload_n 0, 1) := by decide +kernel
theorem kRF_determinant_d9 : decode prog_13_method_30_code 9 = .ok (.getfield 30, 3) := by decide +kernel
theorem kRF_determinant_d12 : decode prog_13_method_30_code 12 = .ok (.istore_n 3, 1) := by decide +kernel
theorem kRF_determinant_d13 : decode prog_13_method_30_code 13 = .ok (.aload_n 0, 1) := by decide +kernel
theorem kRF_determinant_d14 : decode prog_13_method_30_code 14 = .ok (.iload_n 1, 1) := by decide +kernel
theorem kRF_determinant_d15 : decode prog_13_method_30_code 15 = .ok (.invokevirtual 158, 3) := by decide +kernel
theorem kRF_determinant_d18 : decode prog_13_method_30_code 18 = .ok (.istore 4, 2) := by decide +kernel
theorem kRF_determinant_d20 : decode prog_13_method_30_code 20 = .ok (.aload_n 0, 1) := by decide +kernel
theorem kRF_determinant_d21 : decode prog_13_method_30_code 21 = .ok (.iload_n 1, 1) := by decide +kernel
theorem kRF_determinant_d22 : decode prog_13_method_30_code 22 = .ok (.invokevirtual 118, 3) := by decide +kernel
theorem kRF_determinant_d25 : decode prog_13_method_30_code 25 = .ok (.istore 5, 2) := by decide +kernel
theorem kRF_determinant_d27 : decode prog_13_method_30_code 27 = .ok (.aload_n 0, 1) := by decide +kernel
theorem kRF_determinant_d28 : decode prog_13_method_30_code 28 = .ok (.lconst 1, 1) := by decide +kernel
theorem kRF_determinant_d29 : decode prog_13_method_30_code 29 = .ok (.invokevirtual 128, 3) := by decide +kernel
theorem kRF_determinant_d32 : decode prog_13_method_30_code 32 = .ok (.aload_n 0, 1) := by decide +kernel
theorem kRF_determinant_d33 : decode prog_13_method_30_code 33 = .ok (.getfield 37, 3) := by decide +kernel
theorem kRF_determinant_d36 : decode prog_13_method_30_code 36 = .ok (.istore 6, 2) := by decide +kernel
theorem kRF_determinant_d38 : decode prog_13_method_30_code 38 = .ok (.aload_n 0, 1) := by decide +kernel
theorem kRF_determinant_d39 : decode prog_13_method_30_code 39 = .ok (.getfield 40, 3) := by decide +kernel
theorem kRF_determinant_d42 : decode prog_13_method_30_code 42 = .ok (.istore 7, 2) := by decide +kernel
theorem kRF_determinant_d44 : decode prog_13_method_30_code 44 = .ok (.iconst 0, 1) := by decide +kernel
theorem kRF_determinant_d45 : decode prog_13_method_30_code 45 = .ok (.istore 8, 2) := by decide +kernel
theorem kRF_determinant_d47 : decode prog_13_method_30_code 47 = .ok (.iconst 0, 1) := by decide +kernel
theorem kRF_determinant_d48 : decode prog_13_method_30_code 48 = .ok (.istore 9, 2) := by decide +kernel
theorem kRF_determinant_d50 : decode prog_13_method_30_code 50 = .ok (.iload 9, 2) := by decide +kernel
theorem kRF_determinant_d52 : decode prog_13_method_30_code 52 = .ok (.iload 5, 2) := by decide +kernel
theorem kRF_determinant_d54 : decode prog_13_method_30_code 54 = .ok (.if_icmp .ge 658, 3) := by decide +kernel
theorem kRF_determinant_d57 : decode prog_13_method_30_code 57 = .ok (.iload 9, 2) := by decide +kernel
theorem kRF_determinant_d59 : decode prog_13_method_30_code 59 = .ok (.istore 10, 2) := by decide +kernel
theorem kRF_determinant_d61 : decode prog_13_method_30_code 61 = .ok (.iload 10, 2) := by decide +kernel
theorem kRF_determinant_d63 : decode prog_13_method_30_code 63 = .ok (.iload 5, 2) := by decide +kernel
theorem kRF_determinant_d65 : decode prog_13_method_30_code 65 = .ok (.if_icmp .ge 26, 3) := by decide +kernel
theorem kRF_determinant_d68 : decode prog_13_method_30_code 68 = .ok (.aload_n 0, 1) := by decide +kernel
theorem kRF_determinant_d69 : decode prog_13_method_30_code 69 = .ok (.iload 4, 2) := by decide +kernel
theorem kRF_determinant_d71 : decode prog_13_method_30_code 71 = .ok (.iload 10, 2) := by decide +kernel
theorem kRF_determinant_d73 : decode prog_13_method_30_code 73 = .ok (.iload 5, 2) := by decide +kernel
theorem kRF_determinant_d75 : decode prog_13_method_30_code 75 = .ok (.imul, 1) := by decide +kernel
theorem kRF_determinant_d76 : decode prog_13_method_30_code 76 = .ok (.iload 9, 2) := by decide +kernel
theorem kRF_determinant_d78 : decode prog_13_method_30_code 78 = .ok (.iadd, 1) := by decide +kernel
theorem kRF_determinant_d79 : decode prog_13_method_30_code 79 = .ok (.invokevirtual 43, 3) := by decide +kernel
theorem kRF_determinant_d82 : decode prog_13_method_30_code 82 = .ok (.ifCond .ne 9, 3) := by decide +kernel
theorem kRF_determinant_d85 : decode prog_13_method_30_code 85 = .ok (.iinc 10 1, 3) := by decide +kernel
theorem kRF_determinant_d88 : decode prog_13_method_30_code 88 = .ok (.goto (-27), 3) := by decide +kernel
theorem kRF_determinant_d91 : decode prog_13_method_30_code 91 = .ok (.iload 10, 2) := by decide +kernel
theorem kRF_determinant_d93 : decode prog_13_method_30_code 93 = .ok (.iload 5, 2) := by decide +kernel
theorem kRF_determinant_d95 : decode prog_13_method_30_code 95 = .ok (.if_icmp .ne 22, 3) := by decide +kernel
theorem kRF_determinant_d98 : decode prog_13_method_30_code 98 = .ok (.aload_n 0, 1) := by decide +kernel
theorem kRF_determinant_d99 : decode prog_13_method_30_code 99 = .ok (.getfield 10, 3) := by decide +kernel
theorem kRF_determinant_d102 : decode prog_13_method_30_code 102 = .ok (.iload_n 2, 1) := by decide +kernel
theorem kRF_determinant_d103 : decode prog_13_method_30_code 103 = .ok (.putfield 26, 3) := by decide +kernel
theorem kRF_determinant_d106 : decode prog_13_method_30_code 106 = .ok (.aload_n 0, 1) := by decide +kernel
theorem kRF_determinant_d107 : decode prog_13_method_30_code 107 = .ok (.iload_n 3, 1) := by decide +kernel
theorem kRF_determinant_d108 : decode prog_13_method_30_code 108 = .ok (.putfield 30, 3) := by decide +kernel
theorem kRF_determinant_d111 : decode prog_13_method_30_code 111 = .ok (.aload_n 0, 1) := by decide +kernel
theorem kRF_determinant_d112 : decode prog_13_method_30_code 112 = .ok (.lconst 0, 1) := by decide +kernel
theorem kRF_determinant_d113 : decode prog_13_method_30_code 113 = .ok (.invokevirtual 128, 3) := by decide +kernel
theorem kRF_determinant_d116 : decode prog_13_method_30_code 116 = .ok (.return_, 1) := by decide +kernel
theorem kRF_determinant_d117 : decode prog_13_method_30_code 117 = .ok (.iload 8, 2) := by decide +kernel
theorem kRF_determinant_d119 : decode prog_13_method_30_code 119 = .ok (.iload 10, 2) := by decide +kernel
theorem kRF_determinant_d121 : decode prog_13_method_30_code 121 = .ok (.iload 9, 2) := by decide +kernel
theorem kRF_determinant_d123 : decode prog_13_method_30_code 123 = .ok (.if_icmp .eq 7, 3) := by decide +kernel
theorem kRF_determinant_d126 : decode prog_13_method_30_code 126 = .ok (.iconst 1, 1) := by decide +kernel
theorem kRF_determinant_d127 : decode prog_13_method_30_code 127 = .ok (.goto 4, 3) := by decide +kernel
theorem kRF_determinant_d130 : decode prog_13_method_30_code 130 = .ok (.iconst 0, 1) := by decide +kernel
theorem kRF_determinant_d131 : decode prog_13_method_30_code 131 = .ok (.if_icmp .eq 7, 3) := by decide +kernel
theorem kRF_determinant_d134 : decode prog_13_method_30_code 134 = .ok (.iconst 1, 1) := by decide +kernel
theorem kRF_determinant_d135 : decode prog_13_method_30_code 135 = .ok (.goto 4, 3) := by decide +kernel
theorem kRF_determinant_d138 : decode prog_13_method_30_code 138 = .ok (.iconst 0, 1) := by decide +kernel
theorem kRF_determinant_d139 : decode prog_13_method_30_code 139 = .ok (.istore 8, 2) := by decide +kernel
theorem kRF_determinant_d141 : decode prog_13_method_30_code 141 = .ok (.aload_n 0, 1) := by decide +kernel
theorem kRF_determinant_d142 : decode prog_13_method_30_code 142 = .ok (.iload 6, 2) := by decide +kernel
theorem kRF_determinant_d144 : decode prog_13_method_30_code 144 = .ok (.iload 7, 2) := by decide +kernel
theorem kRF_determinant_d146 : decode prog_13_method_30_code 146 = .ok (.aload_n 0, 1) := by decide +kernel
theorem kRF_determinant_d147 : decode prog_13_method_30_code 147 = .ok (.iload 4, 2) := by decide +kernel
theorem kRF_determinant_d149 : decode prog_13_method_30_code 149 = .ok (.iload 10, 2) := by decide +kernel
theorem kRF_determinant_d151 : decode prog_13_method_30_code 151 = .ok (.iload 5, 2) := by decide +kernel
theorem kRF_determinant_d153 : decode prog_13_method_30_code 153 = .ok (.imul, 1) := by decide +kernel
theorem kRF_determinant_d154 : decode prog_13_method_30_code 154 = .ok (.iload 9, 2) := by decide +kernel
theorem kRF_determinant_d156 : decode prog_13_method_30_code 156 = .ok (.iadd, 1) := by decide +kernel
theorem kRF_determinant_d157 : decode prog_13_method_30_code 157 = .ok (.invokevirtual 43, 3) := by decide +kernel
theorem kRF_determinant_d160 : decode prog_13_method_30_code 160 = .ok (.aload_n 0, 1) := by decide +kernel
theorem kRF_determinant_d161 : decode prog_13_method_30_code 161 = .ok (.iload 4, 2) := by decide +kernel
theorem kRF_determinant_d163 : decode prog_13_method_30_code 163 = .ok (.iload 10, 2) := by decide +kernel
theorem kRF_determinant_d165 : decode prog_13_method_30_code 165 = .ok (.iload 5, 2) := by decide +kernel
theorem kRF_determinant_d167 : decode prog_13_method_30_code 167 = .ok (.imul, 1) := by decide +kernel
theorem kRF_determinant_d168 : decode prog_13_method_30_code 168 = .ok (.iload 9, 2) := by decide +kernel
theorem kRF_determinant_d170 : decode prog_13_method_30_code 170 = .ok (.iadd, 1) := by decide +kernel
theorem kRF_determinant_d171 : decode prog_13_method_30_code 171 = .ok (.invokevirtual 51, 3) := by decide +kernel
theorem kRF_determinant_d174 : decode prog_13_method_30_code 174 = .ok (.invokevirtual 159, 3) := by decide +kernel
theorem kRF_determinant_d177 : decode prog_13_method_30_code 177 = .ok (.aload_n 0, 1) := by decide +kernel
theorem kRF_determinant_d178 : decode prog_13_method_30_code 178 = .ok (.getfield 37, 3) := by decide +kernel
theorem kRF_determinant_d181 : decode prog_13_method_30_code 181 = .ok (.istore 11, 2) := by decide +kernel
theorem kRF_determinant_d183 : decode prog_13_method_30_code 183 = .ok (.aload_n 0, 1) := by decide +kernel
theorem kRF_determinant_d184 : decode prog_13_method_30_code 184 = .ok (.getfield 40, 3) := by decide +kernel
theorem kRF_determinant_d187 : decode prog_13_method_30_code 187 = .ok (.istore 12, 2) := by decide +kernel
theorem kRF_determinant_d189 : decode prog_13_method_30_code 189 = .ok (.aload_n 0, 1) := by decide +kernel
theorem kRF_determinant_d190 : decode prog_13_method_30_code 190 = .ok (.getfield 10, 3) := by decide +kernel
theorem kRF_determinant_d193 : decode prog_13_method_30_code 193 = .ok (.getfield 26, 3) := by decide +kernel
theorem kRF_determinant_d196 : decode prog_13_method_30_code 196 = .ok (.istore 13, 2) := by decide +kernel
theorem kRF_determinant_d198 : decode prog_13_method_30_code 198 = .ok (.aload_n 0, 1) := by decide +kernel
theorem kRF_determinant_d199 : decode prog_13_method_30_code 199 = .ok (.iload 5, 2) := by decide +kernel
theorem kRF_determinant_d201 : decode prog_13_method_30_code 201 = .ok (.iload 5, 2) := by decide +kernel
theorem kRF_determinant_d203 : decode prog_13_method_30_code 203 = .ok (.invokevirtual 121, 3) := by decide +kernel
theorem kRF_determinant_d206 : decode prog_13_method_30_code 206 = .ok (.istore 14, 2) := by decide +kernel
theorem kRF_determinant_d208 : decode prog_13_method_30_code 208 = .ok (.iconst 0, 1) := by decide +kernel
theorem kRF_determinant_d209 : decode prog_13_method_30_code 209 = .ok (.istore 15, 2) := by decide +kernel
theorem kRF_determinant_d211 : decode prog_13_method_30_code 211 = .ok (.iconst 1, 1) := by decide +kernel
theorem kRF_determinant_d212 : decode prog_13_method_30_code 212 = .ok (.istore 16, 2) := by decide +kernel
theorem kRF_determinant_d214 : decode prog_13_method_30_code 214 = .ok (.iconst 0, 1) := by decide +kernel
theorem kRF_determinant_d215 : decode prog_13_method_30_code 215 = .ok (.istore 17, 2) := by decide +kernel
theorem kRF_determinant_d217 : decode prog_13_method_30_code 217 = .ok (.iload 17, 2) := by decide +kernel
theorem kRF_determinant_d219 : decode prog_13_method_30_code 219 = .ok (.iload 5, 2) := by decide +kernel
theorem kRF_determinant_d221 : decode prog_13_method_30_code 221 = .ok (.iload 5, 2) := by decide +kernel
theorem kRF_determinant_d223 : decode prog_13_method_30_code 223 = .ok (.imul, 1) := by decide +kernel
theorem kRF_determinant_d224 : decode prog_13_method_30_code 224 = .ok (.if_icmp .ge 245, 3) := by decide +kernel
theorem kRF_determinant_d227 : decode prog_13_method_30_code 227 = .ok (.iload 17, 2) := by decide +kernel
theorem kRF_determinant_d229 : decode prog_13_method_30_code 229 = .ok (.iload 5, 2) := by decide +kernel
theorem kRF_determinant_d231 : decode prog_13_method_30_code 231 = .ok (.idiv, 1) := by decide +kernel
theorem kRF_determinant_d232 : decode prog_13_method_30_code 232 = .ok (.istore 18, 2) := by decide +kernel
theorem kRF_determinant_d234 : decode prog_13_method_30_code 234 = .ok (.iload 18, 2) := by decide +kernel
theorem kRF_determinant_d236 : decode prog_13_method_30_code 236 = .ok (.iload 9, 2) := by decide +kernel
theorem kRF_determinant_d238 : decode prog_13_method_30_code 238 = .ok (.if_icmp .ne 8, 3) := by decide +kernel
theorem kRF_determinant_d241 : decode prog_13_method_30_code 241 = .ok (.iload 10, 2) := by decide +kernel
theorem kRF_determinant_d243 : decode prog_13_method_30_code 243 = .ok (.goto 17, 3) := by decide +kernel
theorem kRF_determinant_d246 : decode prog_13_method_30_code 246 = .ok (.iload 18, 2) := by decide +kernel
theorem kRF_determinant_d248 : decode prog_13_method_30_code 248 = .ok (.iload 10, 2) := by decide +kernel
theorem kRF_determinant_d250 : decode prog_13_method_30_code 250 = .ok (.if_icmp .ne 8, 3) := by decide +kernel
theorem kRF_determinant_d253 : decode prog_13_method_30_code 253 = .ok (.iload 9, 2) := by decide +kernel
theorem kRF_determinant_d255 : decode prog_13_method_30_code 255 = .ok (.goto 5, 3) := by decide +kernel
theorem kRF_determinant_d258 : decode prog_13_method_30_code 258 = .ok (.iload 18, 2) := by decide +kernel
theorem kRF_determinant_d260 : decode prog_13_method_30_code 260 = .ok (.istore 19, 2) := by decide +kernel
theorem kRF_determinant_d262 : decode prog_13_method_30_code 262 = .ok (.iload 17, 2) := by decide +kernel
theorem kRF_determinant_d264 : decode prog_13_method_30_code 264 = .ok (.iload 5, 2) := by decide +kernel
theorem kRF_determinant_d266 : decode prog_13_method_30_code 266 = .ok (.irem, 1) := by decide +kernel
theorem kRF_determinant_d267 : decode prog_13_method_30_code 267 = .ok (.istore 20, 2) := by decide +kernel
theorem kRF_determinant_d269 : decode prog_13_method_30_code 269 = .ok (.iload 18, 2) := by decide +kernel
theorem kRF_determinant_d271 : decode prog_13_method_30_code 271 = .ok (.iload 9, 2) := by decide +kernel
theorem kRF_determinant_d273 : decode prog_13_method_30_code 273 = .ok (.if_icmp .le 20, 3) := by decide +kernel
theorem kRF_determinant_d276 : decode prog_13_method_30_code 276 = .ok (.aload_n 0, 1) := by decide +kernel
theorem kRF_determinant_d277 : decode prog_13_method_30_code 277 = .ok (.iload 4, 2) := by decide +kernel
theorem kRF_determinant_d279 : decode prog_13_method_30_code 279 = .ok (.iload 19, 2) := by decide +kernel
theorem kRF_determinant_d281 : decode prog_13_method_30_code 281 = .ok (.iload 5, 2) := by decide +kernel
theorem kRF_determinant_d283 : decode prog_13_method_30_code 283 = .ok (.imul, 1) := by decide +kernel
theorem kRF_determinant_d284 : decode prog_13_method_30_code 284 = .ok (.iload 9, 2) := by decide +kernel
theorem kRF_determinant_d286 : decode prog_13_method_30_code 286 = .ok (.iadd, 1) := by decide +kernel
theorem kRF_determinant_d287 : decode prog_13_method_30_code 287 = .ok (.invokevirtual 43, 3) := by decide +kernel
theorem kRF_determinant_d290 : decode prog_13_method_30_code 290 = .ok (.ifCond .ne 24, 3) := by decide +kernel
theorem kRF_determinant_d293 : decode prog_13_method_30_code 293 = .ok (.aload_n 0, 1) := by decide +kernel
theorem kRF_determinant_d294 : decode prog_13_method_30_code 294 = .ok (.iload 14, 2) := by decide +kernel
theorem kRF_determinant_d296 : decode prog_13_method_30_code 296 = .ok (.iload 17, 2) := by decide +kernel
theorem kRF_determinant_d298 : decode prog_13_method_30_code 298 = .ok (.iload 4, 2) := by decide +kernel
theorem kRF_determinant_d300 : decode prog_13_method_30_code 300 = .ok (.iload 19, 2) := by decide +kernel
theorem kRF_determinant_d302 : decode prog_13_method_30_code 302 = .ok (.iload 5, 2) := by decide +kernel
theorem kRF_determinant_d304 : decode prog_13_method_30_code 304 = .ok (.imul, 1) := by decide +kernel
theorem kRF_determinant_d305 : decode prog_13_method_30_code 305 = .ok (.iload 20, 2) := by decide +kernel
theorem kRF_determinant_d307 : decode prog_13_method_30_code 307 = .ok (.iadd, 1) := by decide +kernel
theorem kRF_determinant_d308 : decode prog_13_method_30_code 308 = .ok (.invokevirtual 124, 3) := by decide +kernel
theorem kRF_determinant_d311 : decode prog_13_method_30_code 311 = .ok (.goto 152, 3) := by decide +kernel
theorem kRF_determinant_d314 : decode prog_13_method_30_code 314 = .ok (.iload 20, 2) := by decide +kernel
theorem kRF_determinant_d316 : decode prog_13_method_30_code 316 = .ok (.ifCond .ne 75, 3) := by decide +kernel
theorem kRF_determinant_d319 : decode prog_13_method_30_code 319 = .ok (.aload_n 0, 1) := by decide +kernel
theorem kRF_determinant_d320 : decode prog_13_method_30_code 320 = .ok (.aload_n 0, 1) := by decide +kernel
theorem kRF_determinant_d321 : decode prog_13_method_30_code 321 = .ok (.iload 4, 2) := by decide +kernel
theorem kRF_determinant_d323 : decode prog_13_method_30_code 323 = .ok (.iload 19, 2) := by decide +kernel
theorem kRF_determinant_d325 : decode prog_13_method_30_code 325 = .ok (.iload 5, 2) := by decide +kernel
theorem kRF_determinant_d327 : decode prog_13_method_30_code 327 = .ok (.imul, 1) := by decide +kernel
theorem kRF_determinant_d328 : decode prog_13_method_30_code 328 = .ok (.iload 9, 2) := by decide +kernel
theorem kRF_determinant_d330 : decode prog_13_method_30_code 330 = .ok (.iadd, 1) := by decide +kernel
theorem kRF_determinant_d331 : decode prog_13_method_30_code 331 = .ok (.invokevirtual 43, 3) := by decide +kernel
theorem kRF_determinant_d334 : decode prog_13_method_30_code 334 = .ok (.aload_n 0, 1) := by decide +kernel
theorem kRF_determinant_d335 : decode prog_13_method_30_code 335 = .ok (.iload 4, 2) := by decide +kernel
theorem kRF_determinant_d337 : decode prog_13_method_30_code 337 = .ok (.iload 19, 2) := by decide +kernel
theorem kRF_determinant_d339 : decode prog_13_method_30_code 339 = .ok (.iload 5, 2) := by decide +kernel
theorem kRF_determinant_d341 : decode prog_13_method_30_code 341 = .ok (.imul, 1) := by decide +kernel
theorem kRF_determinant_d342 : decode prog_13_method_30_code 342 = .ok (.iload 9, 2) := by decide +kernel
theorem kRF_determinant_d344 : decode prog_13_method_30_code 344 = .ok (.iadd, 1) := by decide +kernel
theorem kRF_determinant_d345 : decode prog_13_method_30_code 345 = .ok (.invokevirtual 51, 3) := by decide +kernel
theorem kRF_determinant_d348 : decode prog_13_method_30_code 348 = .ok (.aload_n 0, 1) := by decide +kernel
theorem kRF_determinant_d349 : decode prog_13_method_30_code 349 = .ok (.iload 4, 2) := by decide +kernel
theorem kRF_determinant_d351 : decode prog_13_method_30_code 351 = .ok (.iload 10, 2) := by decide +kernel
theorem kRF_determinant_d353 : decode prog_13_method_30_code 353 = .ok (.iload 5, 2) := by decide +kernel
theorem kRF_determinant_d355 : decode prog_13_method_30_code 355 = .ok (.imul, 1) := by decide +kernel
theorem kRF_determinant_d356 : decode prog_13_method_30_code 356 = .ok (.iload 9, 2) := by decide +kernel
theorem kRF_determinant_d358 : decode prog_13_method_30_code 358 = .ok (.iadd, 1) := by decide +kernel
theorem kRF_determinant_d359 : decode prog_13_method_30_code 359 = .ok (.invokevirtual 43, 3) := by decide +kernel
theorem kRF_determinant_d362 : decode prog_13_method_30_code 362 = .ok (.aload_n 0, 1) := by decide +kernel
theorem kRF_determinant_d363 : decode prog_13_method_30_code 363 = .ok (.iload 4, 2) := by decide +kernel
theorem kRF_determinant_d365 : decode prog_13_method_30_code 365 = .ok (.iload 10, 2) := by decide +kernel
theorem kRF_determinant_d367 : decode prog_13_method_30_code 367 = .ok (.iload 5, 2) := by decide +kernel
theorem kRF_determinant_d369 : decode prog_13_method_30_code 369 = .ok (.imul, 1) := by decide +kernel
theorem kRF_determinant_d370 : decode prog_13_method_30_code 370 = .ok (.iload 9, 2) := by decide +kernel
theorem kRF_determinant_d372 : decode prog_13_method_30_code 372 = .ok (.iadd, 1) := by decide +kernel
theorem kRF_determinant_d373 : decode prog_13_method_30_code 373 = .ok (.invokevirtual 51, 3) := by decide +kernel
theorem kRF_determinant_d376 : decode prog_13_method_30_code 376 = .ok (.invokevirtual 152, 3) := by decide +kernel
theorem kRF_determinant_d379 : decode prog_13_method_30_code 379 = .ok (.aload_n 0, 1) := by decide +kernel
theorem kRF_determinant_d380 : decode prog_13_method_30_code 380 = .ok (.getfield 37, 3) := by decide +kernel
theorem kRF_determinant_d383 : decode prog_13_method_30_code 383 = .ok (.istore 15, 2) := by decide +kernel
theorem kRF_determinant_d385 : decode prog_13_method_30_code 385 = .ok (.aload_n 0, 1) := by decide +kernel
theorem kRF_determinant_d386 : decode prog_13_method_30_code 386 = .ok (.getfield 40, 3) := by decide +kernel
theorem kRF_determinant_d389 : decode prog_13_method_30_code 389 = .ok (.istore 16, 2) := by decide +kernel
theorem kRF_determinant_d391 : decode prog_13_method_30_code 391 = .ok (.aload_n 0, 1) := by decide +kernel
theorem kRF_determinant_d392 : decode prog_13_method_30_code 392 = .ok (.iload 15, 2) := by decide +kernel
theorem kRF_determinant_d394 : decode prog_13_method_30_code 394 = .ok (.iload 16, 2) := by decide +kernel
theorem kRF_determinant_d396 : decode prog_13_method_30_code 396 = .ok (.aload_n 0, 1) := by decide +kernel
theorem kRF_determinant_d397 : decode prog_13_method_30_code 397 = .ok (.iload 4, 2) := by decide +kernel
theorem kRF_determinant_d399 : decode prog_13_method_30_code 399 = .ok (.iload 10, 2) := by decide +kernel
theorem kRF_determinant_d401 : decode prog_13_method_30_code 401 = .ok (.iload 5, 2) := by decide +kernel
theorem kRF_determinant_d403 : decode prog_13_method_30_code 403 = .ok (.imul, 1) := by decide +kernel
theorem kRF_determinant_d404 : decode prog_13_method_30_code 404 = .ok (.iload 20, 2) := by decide +kernel
theorem kRF_determinant_d406 : decode prog_13_method_30_code 406 = .ok (.iadd, 1) := by decide +kernel
theorem kRF_determinant_d407 : decode prog_13_method_30_code 407 = .ok (.invokevirtual 43, 3) := by decide +kernel
theorem kRF_determinant_d410 : decode prog_13_method_30_code 410 = .ok (.aload_n 0, 1) := by decide +kernel
theorem kRF_determinant_d411 : decode prog_13_method_30_code 411 = .ok (.iload 4, 2) := by decide +kernel
theorem kRF_determinant_d413 : decode prog_13_method_30_code 413 = .ok (.iload 10, 2) := by decide +kernel
theorem kRF_determinant_d415 : decode prog_13_method_30_code 415 = .ok (.iload 5, 2) := by decide +kernel
theorem kRF_determinant_d417 : decode prog_13_method_30_code 417 = .ok (.imul, 1) := by decide +kernel
theorem kRF_determinant_d418 : decode prog_13_method_30_code 418 = .ok (.iload 20, 2) := by decide +kernel
theorem kRF_determinant_d420 : decode prog_13_method_30_code 420 = .ok (.iadd, 1) := by decide +kernel
theorem kRF_determinant_d421 : decode prog_13_method_30_code 421 = .ok (.invokevirtual 51, 3) := by decide +kernel
theorem kRF_determinant_d424 : decode prog_13_method_30_code 424 = .ok (.aload_n 0, 1) := by decide +kernel
theorem kRF_determinant_d425 : decode prog_13_method_30_code 425 = .ok (.iload 4, 2) := by decide +kernel
theorem kRF_determinant_d427 : decode prog_13_method_30_code 427 = .ok (.iload 19, 2) := by decide +kernel
theorem kRF_determinant_d429 : decode prog_13_method_30_code 429 = .ok (.iload 5, 2) := by decide +kernel
theorem kRF_determinant_d431 : decode prog_13_method_30_code 431 = .ok (.imul, 1) := by decide +kernel
theorem kRF_determinant_d432 : decode prog_13_method_30_code 432 = .ok (.iload 20, 2) := by decide +kernel
theorem kRF_determinant_d434 : decode prog_13_method_30_code 434 = .ok (.iadd, 1) := by decide +kernel
theorem kRF_determinant_d435 : decode prog_13_method_30_code 435 = .ok (.invokevirtual 43, 3) := by decide +kernel
theorem kRF_determinant_d438 : decode prog_13_method_30_code 438 = .ok (.aload_n 0, 1) := by decide +kernel
theorem kRF_determinant_d439 : decode prog_13_method_30_code 439 = .ok (.iload 4, 2) := by decide +kernel
theorem kRF_determinant_d441 : decode prog_13_method_30_code 441 = .ok (.iload 19, 2) := by decide +kernel
theorem kRF_determinant_d443 : decode prog_13_method_30_code 443 = .ok (.iload 5, 2) := by decide +kernel
theorem kRF_determinant_d445 : decode prog_13_method_30_code 445 = .ok (.imul, 1) := by decide +kernel
theorem kRF_determinant_d446 : decode prog_13_method_30_code 446 = .ok (.iload 20, 2) := by decide +kernel
theorem kRF_determinant_d448 : decode prog_13_method_30_code 448 = .ok (.iadd, 1) := by decide +kernel
theorem kRF_determinant_d449 : decode prog_13_method_30_code 449 = .ok (.invokevirtual 51, 3) := by decide +kernel
theorem kRF_determinant_d452 : decode prog_13_method_30_code 452 = .ok (.invokevirtual 154, 3) := by decide +kernel
theorem kRF_determinant_d455 : decode prog_13_method_30_code 455 = .ok (.aload_n 0, 1) := by decide +kernel
theorem kRF_determinant_d456 : decode prog_13_method_30_code 456 = .ok (.iload 14, 2) := by decide +kernel
theorem kRF_determinant_d458 : decode prog_13_method_30_code 458 = .ok (.iload 17, 2) := by decide +kernel
theorem kRF_determinant_d460 : decode prog_13_method_30_code 460 = .ok (.invokevirtual 54, 3) := by decide +kernel
theorem kRF_determinant_d463 : decode prog_13_method_30_code 463 = .ok (.iinc 17 1, 3) := by decide +kernel
theorem kRF_determinant_d466 : decode prog_13_method_30_code 466 = .ok (.goto (-249), 3) := by decide +kernel
theorem kRF_determinant_d469 : decode prog_13_method_30_code 469 = .ok (.aload_n 0, 1) := by decide +kernel
theorem kRF_determinant_d470 : decode prog_13_method_30_code 470 = .ok (.iconst 1, 1) := by decide +kernel
theorem kRF_determinant_d471 : decode prog_13_method_30_code 471 = .ok (.iconst 1, 1) := by decide +kernel
theorem kRF_determinant_d472 : decode prog_13_method_30_code 472 = .ok (.invokevirtual 121, 3) := by decide +kernel
theorem kRF_determinant_d475 : decode prog_13_method_30_code 475 = .ok (.istore 17, 2) := by decide +kernel
theorem kRF_determinant_d477 : decode prog_13_method_30_code 477 = .ok (.aload_n 0, 1) := by decide +kernel
theorem kRF_determinant_d478 : decode prog_13_method_30_code 478 = .ok (.aload_n 0, 1) := by decide +kernel
theorem kRF_determinant_d479 : decode prog_13_method_30_code 479 = .ok (.getfield 10, 3) := by decide +kernel
theorem kRF_determinant_d482 : decode prog_13_method_30_code 482 = .ok (.iload 11, 2) := by decide +kernel
theorem kRF_determinant_d484 : decode prog_13_method_30_code 484 = .ok (.invokevirtual 47, 3) := by decide +kernel
theorem kRF_determinant_d487 : decode prog_13_method_30_code 487 = .ok (.putfield 37, 3) := by decide +kernel
theorem kRF_determinant_d490 : decode prog_13_method_30_code 490 = .ok (.aload_n 0, 1) := by decide +kernel
theorem kRF_determinant_d491 : decode prog_13_method_30_code 491 = .ok (.iload 12, 2) := by decide +kernel
theorem kRF_determinant_d493 : decode prog_13_method_30_code 493 = .ok (.iconst 1, 1) := by decide +kernel
theorem kRF_determinant_d494 : decode prog_13_method_30_code 494 = .ok (.if_icmp .ne 7, 3) := by decide +kernel
theorem kRF_determinant_d497 : decode prog_13_method_30_code 497 = .ok (.iconst 1, 1) := by decide +kernel
theorem kRF_determinant_d498 : decode prog_13_method_30_code 498 = .ok (.goto 12, 3) := by decide +kernel
theorem kRF_determinant_d501 : decode prog_13_method_30_code 501 = .ok (.aload_n 0, 1) := by decide +kernel
theorem kRF_determinant_d502 : decode prog_13_method_30_code 502 = .ok (.getfield 10, 3) := by decide +kernel
theorem kRF_determinant_d505 : decode prog_13_method_30_code 505 = .ok (.iload 12, 2) := by decide +kernel
theorem kRF_determinant_d507 : decode prog_13_method_30_code 507 = .ok (.invokevirtual 47, 3) := by decide +kernel
theorem kRF_determinant_d510 : decode prog_13_method_30_code 510 = .ok (.putfield 40, 3) := by decide +kernel
theorem kRF_determinant_d513 : decode prog_13_method_30_code 513 = .ok (.aload_n 0, 1) := by decide +kernel
theorem kRF_determinant_d514 : decode prog_13_method_30_code 514 = .ok (.iload 17, 2) := by decide +kernel
theorem kRF_determinant_d516 : decode prog_13_method_30_code 516 = .ok (.iconst 0, 1) := by decide +kernel
theorem kRF_determinant_d517 : decode prog_13_method_30_code 517 = .ok (.invokevirtual 54, 3) := by decide +kernel
theorem kRF_determinant_d520 : decode prog_13_method_30_code 520 = .ok (.iconst 2, 1) := by decide +kernel
theorem kRF_determinant_d521 : decode prog_13_method_30_code 521 = .ok (.iconst 2, 1) := by decide +kernel
theorem kRF_determinant_d522 : decode prog_13_method_30_code 522 = .ok (.iload 5, 2) := by decide +kernel
theorem kRF_determinant_d524 : decode prog_13_method_30_code 524 = .ok (.imul, 1) := by decide +kernel
theorem kRF_determinant_d525 : decode prog_13_method_30_code 525 = .ok (.iload 5, 2) := by decide +kernel
theorem kRF_determinant_d527 : decode prog_13_method_30_code 527 = .ok (.imul, 1) := by decide +kernel
theorem kRF_determinant_d528 : decode prog_13_method_30_code 528 = .ok (.iadd, 1) := by decide +kernel
theorem kRF_determinant_d529 : decode prog_13_method_30_code 529 = .ok (.istore 18, 2) := by decide +kernel
theorem kRF_determinant_d531 : decode prog_13_method_30_code 531 = .ok (.iload 13, 2) := by decide +kernel
theorem kRF_determinant_d533 : decode prog_13_method_30_code 533 = .ok (.iload_n 2, 1) := by decide +kernel
theorem kRF_determinant_d534 : decode prog_13_method_30_code 534 = .ok (.isub, 1) := by decide +kernel
theorem kRF_determinant_d535 : decode prog_13_method_30_code 535 = .ok (.istore 19, 2) := by decide +kernel
theorem kRF_determinant_d537 : decode prog_13_method_30_code 537 = .ok (.aload_n 0, 1) := by decide +kernel
theorem kRF_determinant_d538 : decode prog_13_method_30_code 538 = .ok (.getfield 10, 3) := by decide +kernel
theorem kRF_determinant_d541 : decode prog_13_method_30_code 541 = .ok (.getfield 23, 3) := by decide +kernel
theorem kRF_determinant_d544 : decode prog_13_method_30_code 544 = .ok (.iload 13, 2) := by decide +kernel
theorem kRF_determinant_d546 : decode prog_13_method_30_code 546 = .ok (.aload_n 0, 1) := by decide +kernel
theorem kRF_determinant_d547 : decode prog_13_method_30_code 547 = .ok (.getfield 10, 3) := by decide +kernel
theorem kRF_determinant_d550 : decode prog_13_method_30_code 550 = .ok (.getfield 23, 3) := by decide +kernel
theorem kRF_determinant_d553 : decode prog_13_method_30_code 553 = .ok (.iload_n 2, 1) := by decide +kernel
theorem kRF_determinant_d554 : decode prog_13_method_30_code 554 = .ok (.aload_n 0, 1) := by decide +kernel
theorem kRF_determinant_d555 : decode prog_13_method_30_code 555 = .ok (.getfield 10, 3) := by decide +kernel
theorem kRF_determinant_d558 : decode prog_13_method_30_code 558 = .ok (.getfield 26, 3) := by decide +kernel
theorem kRF_determinant_d561 : decode prog_13_method_30_code 561 = .ok (.iload 13, 2) := by decide +kernel
theorem kRF_determinant_d563 : decode prog_13_method_30_code 563 = .ok (.isub, 1) := by decide +kernel
theorem kRF_determinant_d564 : decode prog_13_method_30_code 564 = .ok (.invokestatic 58, 3) := by decide +kernel
theorem kRF_determinant_d567 : decode prog_13_method_30_code 567 = .ok (.aload_n 0, 1) := by decide +kernel
theorem kRF_determinant_d568 : decode prog_13_method_30_code 568 = .ok (.getfield 10, 3) := by decide +kernel
theorem kRF_determinant_d571 : decode prog_13_method_30_code 571 = .ok (.dup, 1) := by decide +kernel
theorem kRF_determinant_d572 : decode prog_13_method_30_code 572 = .ok (.getfield 26, 3) := by decide +kernel
theorem kRF_determinant_d575 : decode prog_13_method_30_code 575 = .ok (.iload 19, 2) := by decide +kernel
theorem kRF_determinant_d577 : decode prog_13_method_30_code 577 = .ok (.isub, 1) := by decide +kernel
theorem kRF_determinant_d578 : decode prog_13_method_30_code 578 = .ok (.putfield 26, 3) := by decide +kernel
theorem kRF_determinant_d581 : decode prog_13_method_30_code 581 = .ok (.iconst 0, 1) := by decide +kernel
theorem kRF_determinant_d582 : decode prog_13_method_30_code 582 = .ok (.istore 20, 2) := by decide +kernel
theorem kRF_determinant_d584 : decode prog_13_method_30_code 584 = .ok (.iload 20, 2) := by decide +kernel
theorem kRF_determinant_d586 : decode prog_13_method_30_code 586 = .ok (.iload 18, 2) := by decide +kernel
theorem kRF_determinant_d588 : decode prog_13_method_30_code 588 = .ok (.iconst 4, 1) := by decide +kernel
theorem kRF_determinant_d589 : decode prog_13_method_30_code 589 = .ok (.iadd, 1) := by decide +kernel
theorem kRF_determinant_d590 : decode prog_13_method_30_code 590 = .ok (.if_icmp .ge 81, 3) := by decide +kernel
theorem kRF_determinant_d593 : decode prog_13_method_30_code 593 = .ok (.aload_n 0, 1) := by decide +kernel
theorem kRF_determinant_d594 : decode prog_13_method_30_code 594 = .ok (.getfield 16, 3) := by decide +kernel
theorem kRF_determinant_d597 : decode prog_13_method_30_code 597 = .ok (.iload 14, 2) := by decide +kernel
theorem kRF_determinant_d599 : decode prog_13_method_30_code 599 = .ok (.iload 20, 2) := by decide +kernel
theorem kRF_determinant_d601 : decode prog_13_method_30_code 601 = .ok (.iadd, 1) := by decide +kernel
theorem kRF_determinant_d602 : decode prog_13_method_30_code 602 = .ok (.iaload, 1) := by decide +kernel
theorem kRF_determinant_d603 : decode prog_13_method_30_code 603 = .ok (.istore 21, 2) := by decide +kernel
theorem kRF_determinant_d605 : decode prog_13_method_30_code 605 = .ok (.iload 20, 2) := by decide +kernel
theorem kRF_determinant_d607 : decode prog_13_method_30_code 607 = .ok (.iconst 1, 1) := by decide +kernel
theorem kRF_determinant_d608 : decode prog_13_method_30_code 608 = .ok (.if_icmp .le 10, 3) := by decide +kernel
theorem kRF_determinant_d611 : decode prog_13_method_30_code 611 = .ok (.iload 20, 2) := by decide +kernel
theorem kRF_determinant_d613 : decode prog_13_method_30_code 613 = .ok (.iload 18, 2) := by decide +kernel
theorem kRF_determinant_d615 : decode prog_13_method_30_code 615 = .ok (.if_icmp .lt 12, 3) := by decide +kernel
theorem kRF_determinant_d618 : decode prog_13_method_30_code 618 = .ok (.iload 20, 2) := by decide +kernel
theorem kRF_determinant_d620 : decode prog_13_method_30_code 620 = .ok (.iload 18, 2) := by decide +kernel
theorem kRF_determinant_d622 : decode prog_13_method_30_code 622 = .ok (.iconst 1, 1) := by decide +kernel
theorem kRF_determinant_d623 : decode prog_13_method_30_code 623 = .ok (.iadd, 1) := by decide +kernel
theorem kRF_determinant_d624 : decode prog_13_method_30_code 624 = .ok (.if_icmp .le 7, 3) := by decide +kernel
theorem kRF_determinant_d627 : decode prog_13_method_30_code 627 = .ok (.iconst 1, 1) := by decide +kernel
theorem kRF_determinant_d628 : decode prog_13_method_30_code 628 = .ok (.goto 4, 3) := by decide +kernel
theorem kRF_determinant_d631 : decode prog_13_method_30_code 631 = .ok (.iconst 0, 1) := by decide +kernel
theorem kRF_determinant_d632 : decode prog_13_method_30_code 632 = .ok (.istore 22, 2) := by decide +kernel
theorem kRF_determinant_d634 : decode prog_13_method_30_code 634 = .ok (.aload_n 0, 1) := by decide +kernel
theorem kRF_determinant_d635 : decode prog_13_method_30_code 635 = .ok (.getfield 16, 3) := by decide +kernel
theorem kRF_determinant_d638 : decode prog_13_method_30_code 638 = .ok (.iload_n 3, 1) := by decide +kernel
theorem kRF_determinant_d639 : decode prog_13_method_30_code 639 = .ok (.iload 20, 2) := by decide +kernel
theorem kRF_determinant_d641 : decode prog_13_method_30_code 641 = .ok (.iadd, 1) := by decide +kernel
theorem kRF_determinant_d642 : decode prog_13_method_30_code 642 = .ok (.iload 22, 2) := by decide +kernel
theorem kRF_determinant_d644 : decode prog_13_method_30_code 644 = .ok (.ifCond .eq 18, 3) := by decide +kernel
theorem kRF_determinant_d647 : decode prog_13_method_30_code 647 = .ok (.iload 21, 2) := by decide +kernel
theorem kRF_determinant_d649 : decode prog_13_method_30_code 649 = .ok (.iload 13, 2) := by decide +kernel
theorem kRF_determinant_d651 : decode prog_13_method_30_code 651 = .ok (.if_icmp .lt 11, 3) := by decide +kernel
theorem kRF_determinant_d654 : decode prog_13_method_30_code 654 = .ok (.iload 21, 2) := by decide +kernel
theorem kRF_determinant_d656 : decode prog_13_method_30_code 656 = .ok (.iload 19, 2) := by decide +kernel
theorem kRF_determinant_d658 : decode prog_13_method_30_code 658 = .ok (.isub, 1) := by decide +kernel
theorem kRF_determinant_d659 : decode prog_13_method_30_code 659 = .ok (.goto 5, 3) := by decide +kernel
theorem kRF_determinant_d662 : decode prog_13_method_30_code 662 = .ok (.iload 21, 2) := by decide +kernel
theorem kRF_determinant_d664 : decode prog_13_method_30_code 664 = .ok (.iastore, 1) := by decide +kernel
theorem kRF_determinant_d665 : decode prog_13_method_30_code 665 = .ok (.iinc 20 1, 3) := by decide +kernel
theorem kRF_determinant_d668 : decode prog_13_method_30_code 668 = .ok (.goto (-84), 3) := by decide +kernel
theorem kRF_determinant_d671 : decode prog_13_method_30_code 671 = .ok (.iload_n 3, 1) := by decide +kernel
theorem kRF_determinant_d672 : decode prog_13_method_30_code 672 = .ok (.istore 4, 2) := by decide +kernel
theorem kRF_determinant_d674 : decode prog_13_method_30_code 674 = .ok (.aload_n 0, 1) := by decide +kernel
theorem kRF_determinant_d675 : decode prog_13_method_30_code 675 = .ok (.iload_n 3, 1) := by decide +kernel
theorem kRF_determinant_d676 : decode prog_13_method_30_code 676 = .ok (.iload 18, 2) := by decide +kernel
theorem kRF_determinant_d678 : decode prog_13_method_30_code 678 = .ok (.iadd, 1) := by decide +kernel
theorem kRF_determinant_d679 : decode prog_13_method_30_code 679 = .ok (.iconst 4, 1) := by decide +kernel
theorem kRF_determinant_d680 : decode prog_13_method_30_code 680 = .ok (.iadd, 1) := by decide +kernel
theorem kRF_determinant_d681 : decode prog_13_method_30_code 681 = .ok (.putfield 30, 3) := by decide +kernel
theorem kRF_determinant_d684 : decode prog_13_method_30_code 684 = .ok (.aload_n 0, 1) := by decide +kernel
theorem kRF_determinant_d685 : decode prog_13_method_30_code 685 = .ok (.iload_n 3, 1) := by decide +kernel
theorem kRF_determinant_d686 : decode prog_13_method_30_code 686 = .ok (.iload 18, 2) := by decide +kernel
theorem kRF_determinant_d688 : decode prog_13_method_30_code 688 = .ok (.iadd, 1) := by decide +kernel
theorem kRF_determinant_d689 : decode prog_13_method_30_code 689 = .ok (.iconst 0, 1) := by decide +kernel
theorem kRF_determinant_d690 : decode prog_13_method_30_code 690 = .ok (.invokevirtual 43, 3) := by decide +kernel
theorem kRF_determinant_d693 : decode prog_13_method_30_code 693 = .ok (.istore 6, 2) := by decide +kernel
theorem kRF_determinant_d695 : decode prog_13_method_30_code 695 = .ok (.aload_n 0, 1) := by decide +kernel
theorem kRF_determinant_d696 : decode prog_13_method_30_code 696 = .ok (.iload_n 3, 1) := by decide +kernel
theorem kRF_determinant_d697 : decode prog_13_method_30_code 697 = .ok (.iload 18, 2) := by decide +kernel
theorem kRF_determinant_d699 : decode prog_13_method_30_code 699 = .ok (.iadd, 1) := by decide +kernel
theorem kRF_determinant_d700 : decode prog_13_method_30_code 700 = .ok (.iconst 0, 1) := by decide +kernel
theorem kRF_determinant_d701 : decode prog_13_method_30_code 701 = .ok (.invokevirtual 51, 3) := by decide +kernel
theorem kRF_determinant_d704 : decode prog_13_method_30_code 704 = .ok (.istore 7, 2) := by decide +kernel
theorem kRF_determinant_d706 : decode prog_13_method_30_code 706 = .ok (.iinc 9 1, 3) := by decide +kernel
theorem kRF_determinant_d709 : decode prog_13_method_30_code 709 = .ok (.goto (-659), 3) := by decide +kernel
theorem kRF_determinant_d712 : decode prog_13_method_30_code 712 = .ok (.iload 8, 2) := by decide +kernel
theorem kRF_determinant_d714 : decode prog_13_method_30_code 714 = .ok (.ifCond .eq 15, 3) := by decide +kernel
theorem kRF_determinant_d717 : decode prog_13_method_30_code 717 = .ok (.aload_n 0, 1) := by decide +kernel
theorem kRF_determinant_d718 : decode prog_13_method_30_code 718 = .ok (.getfield 10, 3) := by decide +kernel
theorem kRF_determinant_d721 : decode prog_13_method_30_code 721 = .ok (.iload 6, 2) := by decide +kernel
theorem kRF_determinant_d723 : decode prog_13_method_30_code 723 = .ok (.invokevirtual 83, 3) := by decide +kernel
theorem kRF_determinant_d726 : decode prog_13_method_30_code 726 = .ok (.goto 12, 3) := by decide +kernel
theorem kRF_determinant_d729 : decode prog_13_method_30_code 729 = .ok (.aload_n 0, 1) := by decide +kernel
theorem kRF_determinant_d730 : decode prog_13_method_30_code 730 = .ok (.getfield 10, 3) := by decide +kernel
theorem kRF_determinant_d733 : decode prog_13_method_30_code 733 = .ok (.iload 6, 2) := by decide +kernel
theorem kRF_determinant_d735 : decode prog_13_method_30_code 735 = .ok (.invokevirtual 47, 3) := by decide +kernel
theorem kRF_determinant_d738 : decode prog_13_method_30_code 738 = .ok (.istore 9, 2) := by decide +kernel
theorem kRF_determinant_d740 : decode prog_13_method_30_code 740 = .ok (.aload_n 0, 1) := by decide +kernel
theorem kRF_determinant_d741 : decode prog_13_method_30_code 741 = .ok (.getfield 10, 3) := by decide +kernel
theorem kRF_determinant_d744 : decode prog_13_method_30_code 744 = .ok (.iload 7, 2) := by decide +kernel
theorem kRF_determinant_d746 : decode prog_13_method_30_code 746 = .ok (.invokevirtual 47, 3) := by decide +kernel
theorem kRF_determinant_d749 : decode prog_13_method_30_code 749 = .ok (.istore 10, 2) := by decide +kernel
theorem kRF_determinant_d751 : decode prog_13_method_30_code 751 = .ok (.aload_n 0, 1) := by decide +kernel
theorem kRF_determinant_d752 : decode prog_13_method_30_code 752 = .ok (.iload_n 3, 1) := by decide +kernel
theorem kRF_determinant_d753 : decode prog_13_method_30_code 753 = .ok (.putfield 30, 3) := by decide +kernel
theorem kRF_determinant_d756 : decode prog_13_method_30_code 756 = .ok (.aload_n 0, 1) := by decide +kernel
theorem kRF_determinant_d757 : decode prog_13_method_30_code 757 = .ok (.iload_n 2, 1) := by decide +kernel
theorem kRF_determinant_d758 : decode prog_13_method_30_code 758 = .ok (.iload 9, 2) := by decide +kernel
theorem kRF_determinant_d760 : decode prog_13_method_30_code 760 = .ok (.iload 10, 2) := by decide +kernel
theorem kRF_determinant_d762 : decode prog_13_method_30_code 762 = .ok (.invokevirtual 86, 3) := by decide +kernel
theorem kRF_determinant_d765 : decode prog_13_method_30_code 765 = .ok (.return_, 1) := by decide +kernel
theorem kRF_multiply_d0 : decode prog_13_method_15_code 0 = .ok (.aload_n 0, 1) := by decide +kernel
theorem kRF_multiply_d1 : decode prog_13_method_15_code 1 = .ok (.getfield 10, 3) := by decide +kernel
theorem kRF_multiply_d4 : decode prog_13_method_15_code 4 = .ok (.getfield 26, 3) := by decide +kernel
theorem kRF_multiply_d7 : decode prog_13_method_15_code 7 = .ok (.istore 5, 2) := by decide +kernel
theorem kRF_multiply_d9 : decode prog_13_method_15_code 9 = .ok (.iload_n 2, 1) := by decide +kernel
theorem kRF_multiply_d10 : decode prog_13_method_15_code 10 = .ok (.iconst 1, 1) := by decide +kernel
theorem kRF_multiply_d11 : decode prog_13_method_15_code 11 = .ok (.if_icmp .ne 28, 3) := by decide +kernel
theorem kRF_multiply_d14 : decode prog_13_method_15_code 14 = .ok (.iload 4, 2) := by decide +kernel
theorem kRF_multiply_d16 : decode prog_13_method_15_code 16 = .ok (.iconst 1, 1) := by decide +kernel
theorem kRF_multiply_d17 : decode prog_13_method_15_code 17 = .ok (.if_icmp .ne 22, 3) := by decide +kernel
theorem kRF_multiply_d20 : decode prog_13_method_15_code 20 = .ok (.aload_n 0, 1) := by decide +kernel
theorem kRF_multiply_d21 : decode prog_13_method_15_code 21 = .ok (.aload_n 0, 1) := by decide +kernel
theorem kRF_multiply_d22 : decode prog_13_method_15_code 22 = .ok (.getfield 10, 3) := by decide +kernel
theorem kRF_multiply_d25 : decode prog_13_method_15_code 25 = .ok (.iload_n 1, 1) := by decide +kernel
theorem kRF_multiply_d26 : decode prog_13_method_15_code 26 = .ok (.iload_n 3, 1) := by decide +kernel
theorem kRF_multiply_d27 : decode prog_13_method_15_code 27 = .ok (.invokevirtual 106, 3) := by decide +kernel
theorem kRF_multiply_d30 : decode prog_13_method_15_code 30 = .ok (.putfield 37, 3) := by decide +kernel
theorem kRF_multiply_d33 : decode prog_13_method_15_code 33 = .ok (.aload_n 0, 1) := by decide +kernel
theorem kRF_multiply_d34 : decode prog_13_method_15_code 34 = .ok (.iconst 1, 1) := by decide +kernel
theorem kRF_multiply_d35 : decode prog_13_method_15_code 35 = .ok (.putfield 40, 3) := by decide +kernel
theorem kRF_multiply_d38 : decode prog_13_method_15_code 38 = .ok (.return_, 1) := by decide +kernel
theorem kRF_multiply_d39 : decode prog_13_method_15_code 39 = .ok (.aload_n 0, 1) := by decide +kernel
theorem kRF_multiply_d40 : decode prog_13_method_15_code 40 = .ok (.iload 5, 2) := by decide +kernel
theorem kRF_multiply_d42 : decode prog_13_method_15_code 42 = .ok (.aload_n 0, 1) := by decide +kernel
theorem kRF_multiply_d43 : decode prog_13_method_15_code 43 = .ok (.getfield 10, 3) := by decide +kernel
theorem kRF_multiply_d46 : decode prog_13_method_15_code 46 = .ok (.iload_n 1, 1) := by decide +kernel
theorem kRF_multiply_d47 : decode prog_13_method_15_code 47 = .ok (.iload_n 3, 1) := by decide +kernel
theorem kRF_multiply_d48 : decode prog_13_method_15_code 48 = .ok (.invokevirtual 106, 3) := by decide +kernel
theorem kRF_multiply_d51 : decode prog_13_method_15_code 51 = .ok (.aload_n 0, 1) := by decide +kernel
theorem kRF_multiply_d52 : decode prog_13_method_15_code 52 = .ok (.getfield 10, 3) := by decide +kernel
theorem kRF_multiply_d55 : decode prog_13_method_15_code 55 = .ok (.iload_n 2, 1) := by decide +kernel
theorem kRF_multiply_d56 : decode prog_13_method_15_code 56 = .ok (.iload 4, 2) := by decide +kernel
theorem kRF_multiply_d58 : decode prog_13_method_15_code 58 = .ok (.invokevirtual 106, 3) := by decide +kernel
theorem kRF_multiply_d61 : decode prog_13_method_15_code 61 = .ok (.invokevirtual 109, 3) := by decide +kernel
theorem kRF_multiply_d64 : decode prog_13_method_15_code 64 = .ok (.return_, 1) := by decide +kernel
theorem kRF_isWhole_d0 : decode prog_13_method_26_code 0 = .ok (.iconst 1, 1) := by decide +kernel
theorem kRF_isWhole_d1 : decode prog_13_method_26_code 1 = .ok (.istore_n 2, 1) := by decide +kernel
theorem kRF_isWhole_d2 : decode prog_13_method_26_code 2 = .ok (.iconst 0, 1) := by decide +kernel
theorem kRF_isWhole_d3 : decode prog_13_method_26_code 3 = .ok (.istore_n 3, 1) := by decide +kernel
theorem kRF_isWhole_d4 : decode prog_13_method_26_code 4 = .ok (.iload_n 3, 1) := by decide +kernel
theorem kRF_isWhole_d5 : decode prog_13_method_26_code 5 = .ok (.aload_n 0, 1) := by decide +kernel
theorem kRF_isWhole_d6 : decode prog_13_method_26_code 6 = .ok (.iload_n 1, 1) := by decide +kernel
theorem kRF_isWhole_d7 : decode prog_13_method_26_code 7 = .ok (.invokevirtual 64, 3) := by decide +kernel
theorem kRF_isWhole_d10 : decode prog_13_method_26_code 10 = .ok (.if_icmp .ge 27, 3) := by decide +kernel
theorem kRF_isWhole_d13 : decode prog_13_method_26_code 13 = .ok (.iload_n 2, 1) := by decide +kernel
theorem kRF_isWhole_d14 : decode prog_13_method_26_code 14 = .ok (.aload_n 0, 1) := by decide +kernel
theorem kRF_isWhole_d15 : decode prog_13_method_26_code 15 = .ok (.iload_n 1, 1) := by decide +kernel
theorem kRF_isWhole_d16 : decode prog_13_method_26_code 16 = .ok (.iload_n 3, 1) := by decide +kernel
theorem kRF_isWhole_d17 : decode prog_13_method_26_code 17 = .ok (.invokevirtual 51, 3) := by decide +kernel
theorem kRF_isWhole_d20 : decode prog_13_method_26_code 20 = .ok (.iconst 1, 1) := by decide +kernel
theorem kRF_isWhole_d21 : decode prog_13_method_26_code 21 = .ok (.if_icmp .ne 7, 3) := by decide +kernel
theorem kRF_isWhole_d24 : decode prog_13_method_26_code 24 = .ok (.iconst 1, 1) := by decide +kernel
theorem kRF_isWhole_d25 : decode prog_13_method_26_code 25 = .ok (.goto 4, 3) := by decide +kernel
theorem kRF_isWhole_d28 : decode prog_13_method_26_code 28 = .ok (.iconst 0, 1) := by decide +kernel
theorem kRF_isWhole_d29 : decode prog_13_method_26_code 29 = .ok (.iand, 1) := by decide +kernel
theorem kRF_isWhole_d30 : decode prog_13_method_26_code 30 = .ok (.istore_n 2, 1) := by decide +kernel
theorem kRF_isWhole_d31 : decode prog_13_method_26_code 31 = .ok (.iinc 3 1, 3) := by decide +kernel
theorem kRF_isWhole_d34 : decode prog_13_method_26_code 34 = .ok (.goto (-30), 3) := by decide +kernel
theorem kRF_isWhole_d37 : decode prog_13_method_26_code 37 = .ok (.iload_n 2, 1) := by decide +kernel
theorem kRF_isWhole_d38 : decode prog_13_method_26_code 38 = .ok (.ireturn, 1) := by decide +kernel
theorem kRF_isSame_d0 : decode prog_13_method_27_code 0 = .ok (.aload_n 0, 1) := by decide +kernel
theorem kRF_isSame_d1 : decode prog_13_method_27_code 1 = .ok (.iload_n 1, 1) := by decide +kernel
theorem kRF_isSame_d2 : decode prog_13_method_27_code 2 = .ok (.invokevirtual 118, 3) := by decide +kernel
theorem kRF_isSame_d5 : decode prog_13_method_27_code 5 = .ok (.aload_n 0, 1) := by decide +kernel
theorem kRF_isSame_d6 : decode prog_13_method_27_code 6 = .ok (.iload_n 2, 1) := by decide +kernel
theorem kRF_isSame_d7 : decode prog_13_method_27_code 7 = .ok (.invokevirtual 118, 3) := by decide +kernel
theorem kRF_isSame_d10 : decode prog_13_method_27_code 10 = .ok (.if_icmp .ne 20, 3) := by decide +kernel
theorem kRF_isSame_d13 : decode prog_13_method_27_code 13 = .ok (.aload_n 0, 1) := by decide +kernel
theorem kRF_isSame_d14 : decode prog_13_method_27_code 14 = .ok (.iload_n 1, 1) := by decide +kernel
theorem kRF_isSame_d15 : decode prog_13_method_27_code 15 = .ok (.invokevirtual 112, 3) := by decide +kernel
theorem kRF_isSame_d18 : decode prog_13_method_27_code 18 = .ok (.aload_n 0, 1) := by decide +kernel
theorem kRF_isSame_d19 : decode prog_13_method_27_code 19 = .ok (.iload_n 2, 1) := by decide +kernel
theorem kRF_isSame_d20 : decode prog_13_method_27_code 20 = .ok (.invokevirtual 112, 3) := by decide +kernel
theorem kRF_isSame_d23 : decode prog_13_method_27_code 23 = .ok (.if_icmp .ne 7, 3) := by decide +kernel
theorem kRF_isSame_d26 : decode prog_13_method_27_code 26 = .ok (.iconst 1, 1) := by decide +kernel
theorem kRF_isSame_d27 : decode prog_13_method_27_code 27 = .ok (.goto 4, 3) := by decide +kernel
theorem kRF_isSame_d30 : decode prog_13_method_27_code 30 = .ok (.iconst 0, 1) := by decide +kernel
theorem kRF_isSame_d31 : decode prog_13_method_27_code 31 = .ok (.istore_n 3, 1) := by decide +kernel
theorem kRF_isSame_d32 : decode prog_13_method_27_code 32 = .ok (.iconst 0, 1) := by decide +kernel
theorem kRF_isSame_d33 : decode prog_13_method_27_code 33 = .ok (.istore 4, 2) := by decide +kernel
theorem kRF_isSame_d35 : decode prog_13_method_27_code 35 = .ok (.iload_n 3, 1) := by decide +kernel
theorem kRF_isSame_d36 : decode prog_13_method_27_code 36 = .ok (.ifCond .eq 73, 3) := by decide +kernel
theorem kRF_isSame_d39 : decode prog_13_method_27_code 39 = .ok (.iload 4, 2) := by decide +kernel
theorem kRF_isSame_d41 : decode prog_13_method_27_code 41 = .ok (.aload_n 0, 1) := by decide +kernel
theorem kRF_isSame_d42 : decode prog_13_method_27_code 42 = .ok (.iload_n 1, 1) := by decide +kernel
theorem kRF_isSame_d43 : decode prog_13_method_27_code 43 = .ok (.invokevirtual 64, 3) := by decide +kernel
theorem kRF_isSame_d46 : decode prog_13_method_27_code 46 = .ok (.if_icmp .ge 63, 3) := by decide +kernel
theorem kRF_isSame_d49 : decode prog_13_method_27_code 49 = .ok (.aload_n 0, 1) := by decide +kernel
theorem kRF_isSame_d50 : decode prog_13_method_27_code 50 = .ok (.getfield 10, 3) := by decide +kernel
theorem kRF_isSame_d53 : decode prog_13_method_27_code 53 = .ok (.aload_n 0, 1) := by decide +kernel
theorem kRF_isSame_d54 : decode prog_13_method_27_code 54 = .ok (.iload_n 1, 1) := by decide +kernel
theorem kRF_isSame_d55 : decode prog_13_method_27_code 55 = .ok (.iload 4, 2) := by decide +kernel
theorem kRF_isSame_d57 : decode prog_13_method_27_code 57 = .ok (.invokevirtual 43, 3) := by decide +kernel
theorem kRF_isSame_d60 : decode prog_13_method_27_code 60 = .ok (.aload_n 0, 1) := by decide +kernel
theorem kRF_isSame_d61 : decode prog_13_method_27_code 61 = .ok (.iload_n 2, 1) := by decide +kernel
theorem kRF_isSame_d62 : decode prog_13_method_27_code 62 = .ok (.iload 4, 2) := by decide +kernel
theorem kRF_isSame_d64 : decode prog_13_method_27_code 64 = .ok (.invokevirtual 43, 3) := by decide +kernel
theorem kRF_isSame_d67 : decode prog_13_method_27_code 67 = .ok (.invokevirtual 115, 3) := by decide +kernel
theorem kRF_isSame_d70 : decode prog_13_method_27_code 70 = .ok (.ifCond .ne 31, 3) := by decide +kernel
theorem kRF_isSame_d73 : decode prog_13_method_27_code 73 = .ok (.aload_n 0, 1) := by decide +kernel
theorem kRF_isSame_d74 : decode prog_13_method_27_code 74 = .ok (.getfield 10, 3) := by decide +kernel
theorem kRF_isSame_d77 : decode prog_13_method_27_code 77 = .ok (.aload_n 0, 1) := by decide +kernel
theorem kRF_isSame_d78 : decode prog_13_method_27_code 78 = .ok (.iload_n 1, 1) := by decide +kernel
theorem kRF_isSame_d79 : decode prog_13_method_27_code 79 = .ok (.iload 4, 2) := by decide +kernel
theorem kRF_isSame_d81 : decode prog_13_method_27_code 81 = .ok (.invokevirtual 51, 3) := by decide +kernel
theorem kRF_isSame_d84 : decode prog_13_method_27_code 84 = .ok (.aload_n 0, 1) := by decide +kernel
theorem kRF_isSame_d85 : decode prog_13_method_27_code 85 = .ok (.iload_n 2, 1) := by decide +kernel
theorem kRF_isSame_d86 : decode prog_13_method_27_code 86 = .ok (.iload 4, 2) := by decide +kernel
theorem kRF_isSame_d88 : decode prog_13_method_27_code 88 = .ok (.invokevirtual 51, 3) := by decide +kernel
theorem kRF_isSame_d91 : decode prog_13_method_27_code 91 = .ok (.invokevirtual 115, 3) := by decide +kernel
theorem kRF_isSame_d94 : decode prog_13_method_27_code 94 = .ok (.ifCond .ne 7, 3) := by decide +kernel
theorem kRF_isSame_d97 : decode prog_13_method_27_code 97 = .ok (.iconst 1, 1) := by decide +kernel
theorem kRF_isSame_d98 : decode prog_13_method_27_code 98 = .ok (.goto 4, 3) := by decide +kernel
theorem kRF_isSame_d101 : decode prog_13_method_27_code 101 = .ok (.iconst 0, 1) := by decide +kernel
theorem kRF_isSame_d102 : decode prog_13_method_27_code 102 = .ok (.istore_n 3, 1) := by decide +kernel
theorem kRF_isSame_d103 : decode prog_13_method_27_code 103 = .ok (.iinc 4 1, 3) := by decide +kernel
theorem kRF_isSame_d106 : decode prog_13_method_27_code 106 = .ok (.goto (-71), 3) := by decide +kernel
theorem kRF_isSame_d109 : decode prog_13_method_27_code 109 = .ok (.iload_n 3, 1) := by decide +kernel
theorem kRF_isSame_d110 : decode prog_13_method_27_code 110 = .ok (.ireturn, 1) := by decide +kernel
