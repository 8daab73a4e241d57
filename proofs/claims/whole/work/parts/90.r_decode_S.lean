/-! decode rows of ExactForms$Residues -/
theorem kS_init_d0 : decode prog_8_method_1_code 0 = .ok (.aload_n 0, 1) := by decide +kernel
theorem kS_init_d1 : decode prog_8_method_1_code 1 = .ok (.invokespecial 3, 3) := by decide +kernel
theorem kS_init_d4 : decode prog_8_method_1_code 4 = .ok (.aload_n 0, 1) := by decide +kernel
theorem kS_init_d5 : decode prog_8_method_1_code 5 = .ok (.bipush 16, 2) := by decide +kernel
theorem kS_init_d7 : decode prog_8_method_1_code 7 = .ok (.putfield 9, 3) := by decide +kernel
theorem kS_init_d10 : decode prog_8_method_1_code 10 = .ok (.aload_n 0, 1) := by decide +kernel
theorem kS_init_d11 : decode prog_8_method_1_code 11 = .ok (.iconst 1, 1) := by decide +kernel
theorem kS_init_d12 : decode prog_8_method_1_code 12 = .ok (.putfield 15, 3) := by decide +kernel
theorem kS_init_d15 : decode prog_8_method_1_code 15 = .ok (.aload_n 0, 1) := by decide +kernel
theorem kS_init_d16 : decode prog_8_method_1_code 16 = .ok (.sipush 256, 3) := by decide +kernel
theorem kS_init_d19 : decode prog_8_method_1_code 19 = .ok (.anewarray 18, 3) := by decide +kernel
theorem kS_init_d22 : decode prog_8_method_1_code 22 = .ok (.putfield 20, 3) := by decide +kernel
theorem kS_init_d25 : decode prog_8_method_1_code 25 = .ok (.aload_n 0, 1) := by decide +kernel
theorem kS_init_d26 : decode prog_8_method_1_code 26 = .ok (.new 18, 3) := by decide +kernel
theorem kS_init_d29 : decode prog_8_method_1_code 29 = .ok (.dup, 1) := by decide +kernel
theorem kS_init_d30 : decode prog_8_method_1_code 30 = .ok (.bipush 64, 2) := by decide +kernel
theorem kS_init_d32 : decode prog_8_method_1_code 32 = .ok (.invokespecial 24, 3) := by decide +kernel
theorem kS_init_d35 : decode prog_8_method_1_code 35 = .ok (.putfield 27, 3) := by decide +kernel
theorem kS_init_d38 : decode prog_8_method_1_code 38 = .ok (.aload_n 0, 1) := by decide +kernel
theorem kS_init_d39 : decode prog_8_method_1_code 39 = .ok (.new 18, 3) := by decide +kernel
theorem kS_init_d42 : decode prog_8_method_1_code 42 = .ok (.dup, 1) := by decide +kernel
theorem kS_init_d43 : decode prog_8_method_1_code 43 = .ok (.sipush 252, 3) := by decide +kernel
theorem kS_init_d46 : decode prog_8_method_1_code 46 = .ok (.invokespecial 24, 3) := by decide +kernel
theorem kS_init_d49 : decode prog_8_method_1_code 49 = .ok (.putfield 31, 3) := by decide +kernel
theorem kS_init_d52 : decode prog_8_method_1_code 52 = .ok (.aload_n 0, 1) := by decide +kernel
theorem kS_init_d53 : decode prog_8_method_1_code 53 = .ok (.new 18, 3) := by decide +kernel
theorem kS_init_d56 : decode prog_8_method_1_code 56 = .ok (.dup, 1) := by decide +kernel
theorem kS_init_d57 : decode prog_8_method_1_code 57 = .ok (.sipush 252, 3) := by decide +kernel
theorem kS_init_d60 : decode prog_8_method_1_code 60 = .ok (.invokespecial 24, 3) := by decide +kernel
theorem kS_init_d63 : decode prog_8_method_1_code 63 = .ok (.putfield 34, 3) := by decide +kernel
theorem kS_init_d66 : decode prog_8_method_1_code 66 = .ok (.aload_n 0, 1) := by decide +kernel
theorem kS_init_d67 : decode prog_8_method_1_code 67 = .ok (.new 18, 3) := by decide +kernel
theorem kS_init_d70 : decode prog_8_method_1_code 70 = .ok (.dup, 1) := by decide +kernel
theorem kS_init_d71 : decode prog_8_method_1_code 71 = .ok (.sipush 252, 3) := by decide +kernel
theorem kS_init_d74 : decode prog_8_method_1_code 74 = .ok (.invokespecial 24, 3) := by decide +kernel
theorem kS_init_d77 : decode prog_8_method_1_code 77 = .ok (.putfield 37, 3) := by decide +kernel
theorem kS_init_d80 : decode prog_8_method_1_code 80 = .ok (.aload_n 0, 1) := by decide +kernel
theorem kS_init_d81 : decode prog_8_method_1_code 81 = .ok (.new 18, 3) := by decide +kernel
theorem kS_init_d84 : decode prog_8_method_1_code 84 = .ok (.dup, 1) := by decide +kernel
theorem kS_init_d85 : decode prog_8_method_1_code 85 = .ok (.sipush 252, 3) := by decide +kernel
theorem kS_init_d88 : decode prog_8_method_1_code 88 = .ok (.invokespecial 24, 3) := by decide +kernel
theorem kS_init_d91 : decode prog_8_method_1_code 91 = .ok (.putfield 40, 3) := by decide +kernel
theorem kS_init_d94 : decode prog_8_method_1_code 94 = .ok (.aload_n 0, 1) := by decide +kernel
theorem kS_init_d95 : decode prog_8_method_1_code 95 = .ok (.new 18, 3) := by decide +kernel
theorem kS_init_d98 : decode prog_8_method_1_code 98 = .ok (.dup, 1) := by decide +kernel
theorem kS_init_d99 : decode prog_8_method_1_code 99 = .ok (.sipush 252, 3) := by decide +kernel
theorem kS_init_d102 : decode prog_8_method_1_code 102 = .ok (.invokespecial 24, 3) := by decide +kernel
theorem kS_init_d105 : decode prog_8_method_1_code 105 = .ok (.putfield 43, 3) := by decide +kernel
theorem kS_init_d108 : decode prog_8_method_1_code 108 = .ok (.aload_n 0, 1) := by decide +kernel
theorem kS_init_d109 : decode prog_8_method_1_code 109 = .ok (.aload_n 1, 1) := by decide +kernel
theorem kS_init_d110 : decode prog_8_method_1_code 110 = .ok (.putfield 46, 3) := by decide +kernel
theorem kS_init_d113 : decode prog_8_method_1_code 113 = .ok (.iconst 0, 1) := by decide +kernel
theorem kS_init_d114 : decode prog_8_method_1_code 114 = .ok (.istore_n 2, 1) := by decide +kernel
theorem kS_init_d115 : decode prog_8_method_1_code 115 = .ok (.iload_n 2, 1) := by decide +kernel
theorem kS_init_d116 : decode prog_8_method_1_code 116 = .ok (.sipush 256, 3) := by decide +kernel
theorem kS_init_d119 : decode prog_8_method_1_code 119 = .ok (.if_icmp .ge 24, 3) := by decide +kernel
theorem kS_init_d122 : decode prog_8_method_1_code 122 = .ok (.aload_n 0, 1) := by decide +kernel
theorem kS_init_d123 : decode prog_8_method_1_code 123 = .ok (.getfield 20, 3) := by decide +kernel
theorem kS_init_d126 : decode prog_8_method_1_code 126 = .ok (.iload_n 2, 1) := by decide +kernel
theorem kS_init_d127 : decode prog_8_method_1_code 127 = .ok (.new 18, 3) := by decide +kernel
theorem kS_init_d130 : decode prog_8_method_1_code 130 = .ok (.dup, 1) := by decide +kernel
theorem kS_init_d131 : decode prog_8_method_1_code 131 = .ok (.bipush 64, 2) := by decide +kernel
theorem kS_init_d133 : decode prog_8_method_1_code 133 = .ok (.invokespecial 24, 3) := by decide +kernel
theorem kS_init_d136 : decode prog_8_method_1_code 136 = .ok (.aastore, 1) := by decide +kernel
theorem kS_init_d137 : decode prog_8_method_1_code 137 = .ok (.iinc 2 1, 3) := by decide +kernel
theorem kS_init_d140 : decode prog_8_method_1_code 140 = .ok (.goto (-25), 3) := by decide +kernel
theorem kS_init_d143 : decode prog_8_method_1_code 143 = .ok (.return_, 1) := by decide +kernel
theorem kS_load_d0 : decode prog_8_method_3_code 0 = .ok (.aload_n 0, 1) := by decide +kernel
theorem kS_load_d1 : decode prog_8_method_3_code 1 = .ok (.aload_n 1, 1) := by decide +kernel
theorem kS_load_d2 : decode prog_8_method_3_code 2 = .ok (.getfield 50, 3) := by decide +kernel
theorem kS_load_d5 : decode prog_8_method_3_code 5 = .ok (.putfield 55, 3) := by decide +kernel
theorem kS_load_d8 : decode prog_8_method_3_code 8 = .ok (.aload_n 0, 1) := by decide +kernel
theorem kS_load_d9 : decode prog_8_method_3_code 9 = .ok (.iload_n 3, 1) := by decide +kernel
theorem kS_load_d10 : decode prog_8_method_3_code 10 = .ok (.putfield 58, 3) := by decide +kernel
theorem kS_load_d13 : decode prog_8_method_3_code 13 = .ok (.aload_n 0, 1) := by decide +kernel
theorem kS_load_d14 : decode prog_8_method_3_code 14 = .ok (.bipush 16, 2) := by decide +kernel
theorem kS_load_d16 : decode prog_8_method_3_code 16 = .ok (.putfield 9, 3) := by decide +kernel
theorem kS_load_d19 : decode prog_8_method_3_code 19 = .ok (.aload_n 0, 1) := by decide +kernel
theorem kS_load_d20 : decode prog_8_method_3_code 20 = .ok (.iconst 1, 1) := by decide +kernel
theorem kS_load_d21 : decode prog_8_method_3_code 21 = .ok (.putfield 15, 3) := by decide +kernel
theorem kS_load_d24 : decode prog_8_method_3_code 24 = .ok (.aload_n 0, 1) := by decide +kernel
theorem kS_load_d25 : decode prog_8_method_3_code 25 = .ok (.getfield 27, 3) := by decide +kernel
theorem kS_load_d28 : decode prog_8_method_3_code 28 = .ok (.aload 4, 2) := by decide +kernel
theorem kS_load_d30 : decode prog_8_method_3_code 30 = .ok (.invokevirtual 61, 3) := by decide +kernel
theorem kS_load_d33 : decode prog_8_method_3_code 33 = .ok (.aload_n 0, 1) := by decide +kernel
theorem kS_load_d34 : decode prog_8_method_3_code 34 = .ok (.getfield 27, 3) := by decide +kernel
theorem kS_load_d37 : decode prog_8_method_3_code 37 = .ok (.iconst 0, 1) := by decide +kernel
theorem kS_load_d38 : decode prog_8_method_3_code 38 = .ok (.putfield 65, 3) := by decide +kernel
theorem kS_load_d41 : decode prog_8_method_3_code 41 = .ok (.iconst 0, 1) := by decide +kernel
theorem kS_load_d42 : decode prog_8_method_3_code 42 = .ok (.istore 5, 2) := by decide +kernel
theorem kS_load_d44 : decode prog_8_method_3_code 44 = .ok (.iload 5, 2) := by decide +kernel
theorem kS_load_d46 : decode prog_8_method_3_code 46 = .ok (.aload_n 0, 1) := by decide +kernel
theorem kS_load_d47 : decode prog_8_method_3_code 47 = .ok (.getfield 55, 3) := by decide +kernel
theorem kS_load_d50 : decode prog_8_method_3_code 50 = .ok (.if_icmp .ge 49, 3) := by decide +kernel
theorem kS_load_d53 : decode prog_8_method_3_code 53 = .ok (.iconst 0, 1) := by decide +kernel
theorem kS_load_d54 : decode prog_8_method_3_code 54 = .ok (.istore 6, 2) := by decide +kernel
theorem kS_load_d56 : decode prog_8_method_3_code 56 = .ok (.iload 6, 2) := by decide +kernel
theorem kS_load_d58 : decode prog_8_method_3_code 58 = .ok (.aload_n 0, 1) := by decide +kernel
theorem kS_load_d59 : decode prog_8_method_3_code 59 = .ok (.getfield 58, 3) := by decide +kernel
theorem kS_load_d62 : decode prog_8_method_3_code 62 = .ok (.if_icmp .ge 31, 3) := by decide +kernel
theorem kS_load_d65 : decode prog_8_method_3_code 65 = .ok (.aload_n 0, 1) := by decide +kernel
theorem kS_load_d66 : decode prog_8_method_3_code 66 = .ok (.aload_n 1, 1) := by decide +kernel
theorem kS_load_d67 : decode prog_8_method_3_code 67 = .ok (.iload 5, 2) := by decide +kernel
theorem kS_load_d69 : decode prog_8_method_3_code 69 = .ok (.aload_n 2, 1) := by decide +kernel
theorem kS_load_d70 : decode prog_8_method_3_code 70 = .ok (.iload 6, 2) := by decide +kernel
theorem kS_load_d72 : decode prog_8_method_3_code 72 = .ok (.iaload, 1) := by decide +kernel
theorem kS_load_d73 : decode prog_8_method_3_code 73 = .ok (.invokevirtual 69, 3) := by decide +kernel
theorem kS_load_d76 : decode prog_8_method_3_code 76 = .ok (.aload_n 0, 1) := by decide +kernel
theorem kS_load_d77 : decode prog_8_method_3_code 77 = .ok (.iload 5, 2) := by decide +kernel
theorem kS_load_d79 : decode prog_8_method_3_code 79 = .ok (.iload 6, 2) := by decide +kernel
theorem kS_load_d81 : decode prog_8_method_3_code 81 = .ok (.invokevirtual 73, 3) := by decide +kernel
theorem kS_load_d84 : decode prog_8_method_3_code 84 = .ok (.invokevirtual 74, 3) := by decide +kernel
theorem kS_load_d87 : decode prog_8_method_3_code 87 = .ok (.iinc 6 1, 3) := by decide +kernel
theorem kS_load_d90 : decode prog_8_method_3_code 90 = .ok (.goto (-34), 3) := by decide +kernel
theorem kS_load_d93 : decode prog_8_method_3_code 93 = .ok (.iinc 5 1, 3) := by decide +kernel
theorem kS_load_d96 : decode prog_8_method_3_code 96 = .ok (.goto (-52), 3) := by decide +kernel
theorem kS_load_d99 : decode prog_8_method_3_code 99 = .ok (.return_, 1) := by decide +kernel
theorem kS_at_d0 : decode prog_8_method_2_code 0 = .ok (.aload_n 0, 1) := by decide +kernel
theorem kS_at_d1 : decode prog_8_method_2_code 1 = .ok (.getfield 20, 3) := by decide +kernel
theorem kS_at_d4 : decode prog_8_method_2_code 4 = .ok (.iload_n 1, 1) := by decide +kernel
theorem kS_at_d5 : decode prog_8_method_2_code 5 = .ok (.aload_n 0, 1) := by decide +kernel
theorem kS_at_d6 : decode prog_8_method_2_code 6 = .ok (.getfield 9, 3) := by decide +kernel
theorem kS_at_d9 : decode prog_8_method_2_code 9 = .ok (.imul, 1) := by decide +kernel
theorem kS_at_d10 : decode prog_8_method_2_code 10 = .ok (.iload_n 2, 1) := by decide +kernel
theorem kS_at_d11 : decode prog_8_method_2_code 11 = .ok (.aload_n 0, 1) := by decide +kernel
theorem kS_at_d12 : decode prog_8_method_2_code 12 = .ok (.getfield 15, 3) := by decide +kernel
theorem kS_at_d15 : decode prog_8_method_2_code 15 = .ok (.imul, 1) := by decide +kernel
theorem kS_at_d16 : decode prog_8_method_2_code 16 = .ok (.iadd, 1) := by decide +kernel
theorem kS_at_d17 : decode prog_8_method_2_code 17 = .ok (.aaload, 1) := by decide +kernel
theorem kS_at_d18 : decode prog_8_method_2_code 18 = .ok (.areturn, 1) := by decide +kernel
theorem kS_keep_d0 : decode prog_8_method_4_code 0 = .ok (.aload_n 0, 1) := by decide +kernel
theorem kS_keep_d1 : decode prog_8_method_4_code 1 = .ok (.getfield 46, 3) := by decide +kernel
theorem kS_keep_d4 : decode prog_8_method_4_code 4 = .ok (.getfield 78, 3) := by decide +kernel
theorem kS_keep_d7 : decode prog_8_method_4_code 7 = .ok (.aload_n 1, 1) := by decide +kernel
theorem kS_keep_d8 : decode prog_8_method_4_code 8 = .ok (.aload_n 0, 1) := by decide +kernel
theorem kS_keep_d9 : decode prog_8_method_4_code 9 = .ok (.getfield 27, 3) := by decide +kernel
theorem kS_keep_d12 : decode prog_8_method_4_code 12 = .ok (.invokevirtual 84, 3) := by decide +kernel
theorem kS_keep_d15 : decode prog_8_method_4_code 15 = .ok (.aload_n 0, 1) := by decide +kernel
theorem kS_keep_d16 : decode prog_8_method_4_code 16 = .ok (.getfield 46, 3) := by decide +kernel
theorem kS_keep_d19 : decode prog_8_method_4_code 19 = .ok (.getfield 78, 3) := by decide +kernel
theorem kS_keep_d22 : decode prog_8_method_4_code 22 = .ok (.getfield 89, 3) := by decide +kernel
theorem kS_keep_d25 : decode prog_8_method_4_code 25 = .ok (.getfield 65, 3) := by decide +kernel
theorem kS_keep_d28 : decode prog_8_method_4_code 28 = .ok (.ifCond .eq 25, 3) := by decide +kernel
theorem kS_keep_d31 : decode prog_8_method_4_code 31 = .ok (.aload_n 2, 1) := by decide +kernel
theorem kS_keep_d32 : decode prog_8_method_4_code 32 = .ok (.aload_n 0, 1) := by decide +kernel
theorem kS_keep_d33 : decode prog_8_method_4_code 33 = .ok (.getfield 46, 3) := by decide +kernel
theorem kS_keep_d36 : decode prog_8_method_4_code 36 = .ok (.getfield 78, 3) := by decide +kernel
theorem kS_keep_d39 : decode prog_8_method_4_code 39 = .ok (.getfield 89, 3) := by decide +kernel
theorem kS_keep_d42 : decode prog_8_method_4_code 42 = .ok (.aload_n 0, 1) := by decide +kernel
theorem kS_keep_d43 : decode prog_8_method_4_code 43 = .ok (.getfield 27, 3) := by decide +kernel
theorem kS_keep_d46 : decode prog_8_method_4_code 46 = .ok (.iconst 0, 1) := by decide +kernel
theorem kS_keep_d47 : decode prog_8_method_4_code 47 = .ok (.invokevirtual 92, 3) := by decide +kernel
theorem kS_keep_d50 : decode prog_8_method_4_code 50 = .ok (.goto 17, 3) := by decide +kernel
theorem kS_keep_d53 : decode prog_8_method_4_code 53 = .ok (.aload_n 2, 1) := by decide +kernel
theorem kS_keep_d54 : decode prog_8_method_4_code 54 = .ok (.aload_n 0, 1) := by decide +kernel
theorem kS_keep_d55 : decode prog_8_method_4_code 55 = .ok (.getfield 46, 3) := by decide +kernel
theorem kS_keep_d58 : decode prog_8_method_4_code 58 = .ok (.getfield 78, 3) := by decide +kernel
theorem kS_keep_d61 : decode prog_8_method_4_code 61 = .ok (.getfield 89, 3) := by decide +kernel
theorem kS_keep_d64 : decode prog_8_method_4_code 64 = .ok (.invokevirtual 61, 3) := by decide +kernel
theorem kS_keep_d67 : decode prog_8_method_4_code 67 = .ok (.return_, 1) := by decide +kernel
theorem kS_triangulate_d0 : decode prog_8_method_12_code 0 = .ok (.iconst 0, 1) := by decide +kernel
theorem kS_triangulate_d1 : decode prog_8_method_12_code 1 = .ok (.istore_n 1, 1) := by decide +kernel
theorem kS_triangulate_d2 : decode prog_8_method_12_code 2 = .ok (.iload_n 1, 1) := by decide +kernel
theorem kS_triangulate_d3 : decode prog_8_method_12_code 3 = .ok (.aload_n 0, 1) := by decide +kernel
theorem kS_triangulate_d4 : decode prog_8_method_12_code 4 = .ok (.getfield 58, 3) := by decide +kernel
theorem kS_triangulate_d7 : decode prog_8_method_12_code 7 = .ok (.if_icmp .ge 107, 3) := by decide +kernel
theorem kS_triangulate_d10 : decode prog_8_method_12_code 10 = .ok (.iload_n 1, 1) := by decide +kernel
theorem kS_triangulate_d11 : decode prog_8_method_12_code 11 = .ok (.aload_n 0, 1) := by decide +kernel
theorem kS_triangulate_d12 : decode prog_8_method_12_code 12 = .ok (.getfield 55, 3) := by decide +kernel
theorem kS_triangulate_d15 : decode prog_8_method_12_code 15 = .ok (.if_icmp .ge 99, 3) := by decide +kernel
theorem kS_triangulate_d18 : decode prog_8_method_12_code 18 = .ok (.aload_n 0, 1) := by decide +kernel
theorem kS_triangulate_d19 : decode prog_8_method_12_code 19 = .ok (.iload_n 1, 1) := by decide +kernel
theorem kS_triangulate_d20 : decode prog_8_method_12_code 20 = .ok (.invokevirtual 151, 3) := by decide +kernel
theorem kS_triangulate_d23 : decode prog_8_method_12_code 23 = .ok (.aload_n 0, 1) := by decide +kernel
theorem kS_triangulate_d24 : decode prog_8_method_12_code 24 = .ok (.iload_n 1, 1) := by decide +kernel
theorem kS_triangulate_d25 : decode prog_8_method_12_code 25 = .ok (.invokevirtual 154, 3) := by decide +kernel
theorem kS_triangulate_d28 : decode prog_8_method_12_code 28 = .ok (.iconst 0, 1) := by decide +kernel
theorem kS_triangulate_d29 : decode prog_8_method_12_code 29 = .ok (.istore_n 2, 1) := by decide +kernel
theorem kS_triangulate_d30 : decode prog_8_method_12_code 30 = .ok (.iload_n 2, 1) := by decide +kernel
theorem kS_triangulate_d31 : decode prog_8_method_12_code 31 = .ok (.iload_n 1, 1) := by decide +kernel
theorem kS_triangulate_d32 : decode prog_8_method_12_code 32 = .ok (.if_icmp .ge 76, 3) := by decide +kernel
theorem kS_triangulate_d35 : decode prog_8_method_12_code 35 = .ok (.aload_n 0, 1) := by decide +kernel
theorem kS_triangulate_d36 : decode prog_8_method_12_code 36 = .ok (.getfield 46, 3) := by decide +kernel
theorem kS_triangulate_d39 : decode prog_8_method_12_code 39 = .ok (.getfield 78, 3) := by decide +kernel
theorem kS_triangulate_d42 : decode prog_8_method_12_code 42 = .ok (.aload_n 0, 1) := by decide +kernel
theorem kS_triangulate_d43 : decode prog_8_method_12_code 43 = .ok (.iload_n 2, 1) := by decide +kernel
theorem kS_triangulate_d44 : decode prog_8_method_12_code 44 = .ok (.iload_n 1, 1) := by decide +kernel
theorem kS_triangulate_d45 : decode prog_8_method_12_code 45 = .ok (.invokevirtual 73, 3) := by decide +kernel
theorem kS_triangulate_d48 : decode prog_8_method_12_code 48 = .ok (.aload_n 0, 1) := by decide +kernel
theorem kS_triangulate_d49 : decode prog_8_method_12_code 49 = .ok (.iload_n 1, 1) := by decide +kernel
theorem kS_triangulate_d50 : decode prog_8_method_12_code 50 = .ok (.iload_n 1, 1) := by decide +kernel
theorem kS_triangulate_d51 : decode prog_8_method_12_code 51 = .ok (.invokevirtual 73, 3) := by decide +kernel
theorem kS_triangulate_d54 : decode prog_8_method_12_code 54 = .ok (.invokevirtual 84, 3) := by decide +kernel
theorem kS_triangulate_d57 : decode prog_8_method_12_code 57 = .ok (.aload_n 0, 1) := by decide +kernel
theorem kS_triangulate_d58 : decode prog_8_method_12_code 58 = .ok (.getfield 31, 3) := by decide +kernel
theorem kS_triangulate_d61 : decode prog_8_method_12_code 61 = .ok (.aload_n 0, 1) := by decide +kernel
theorem kS_triangulate_d62 : decode prog_8_method_12_code 62 = .ok (.getfield 46, 3) := by decide +kernel
theorem kS_triangulate_d65 : decode prog_8_method_12_code 65 = .ok (.getfield 78, 3) := by decide +kernel
theorem kS_triangulate_d68 : decode prog_8_method_12_code 68 = .ok (.getfield 130, 3) := by decide +kernel
theorem kS_triangulate_d71 : decode prog_8_method_12_code 71 = .ok (.invokevirtual 61, 3) := by decide +kernel
theorem kS_triangulate_d74 : decode prog_8_method_12_code 74 = .ok (.aload_n 0, 1) := by decide +kernel
theorem kS_triangulate_d75 : decode prog_8_method_12_code 75 = .ok (.iload_n 2, 1) := by decide +kernel
theorem kS_triangulate_d76 : decode prog_8_method_12_code 76 = .ok (.iload_n 1, 1) := by decide +kernel
theorem kS_triangulate_d77 : decode prog_8_method_12_code 77 = .ok (.invokevirtual 73, 3) := by decide +kernel
theorem kS_triangulate_d80 : decode prog_8_method_12_code 80 = .ok (.aload_n 0, 1) := by decide +kernel
theorem kS_triangulate_d81 : decode prog_8_method_12_code 81 = .ok (.getfield 46, 3) := by decide +kernel
theorem kS_triangulate_d84 : decode prog_8_method_12_code 84 = .ok (.getfield 78, 3) := by decide +kernel
theorem kS_triangulate_d87 : decode prog_8_method_12_code 87 = .ok (.getfield 89, 3) := by decide +kernel
theorem kS_triangulate_d90 : decode prog_8_method_12_code 90 = .ok (.invokevirtual 61, 3) := by decide +kernel
theorem kS_triangulate_d93 : decode prog_8_method_12_code 93 = .ok (.aload_n 0, 1) := by decide +kernel
theorem kS_triangulate_d94 : decode prog_8_method_12_code 94 = .ok (.iload_n 2, 1) := by decide +kernel
theorem kS_triangulate_d95 : decode prog_8_method_12_code 95 = .ok (.iload_n 1, 1) := by decide +kernel
theorem kS_triangulate_d96 : decode prog_8_method_12_code 96 = .ok (.iload_n 1, 1) := by decide +kernel
theorem kS_triangulate_d97 : decode prog_8_method_12_code 97 = .ok (.iconst 1, 1) := by decide +kernel
theorem kS_triangulate_d98 : decode prog_8_method_12_code 98 = .ok (.iadd, 1) := by decide +kernel
theorem kS_triangulate_d99 : decode prog_8_method_12_code 99 = .ok (.invokevirtual 107, 3) := by decide +kernel
theorem kS_triangulate_d102 : decode prog_8_method_12_code 102 = .ok (.iinc 2 1, 3) := by decide +kernel
theorem kS_triangulate_d105 : decode prog_8_method_12_code 105 = .ok (.goto (-75), 3) := by decide +kernel
theorem kS_triangulate_d108 : decode prog_8_method_12_code 108 = .ok (.iinc 1 1, 3) := by decide +kernel
theorem kS_triangulate_d111 : decode prog_8_method_12_code 111 = .ok (.goto (-109), 3) := by decide +kernel
theorem kS_triangulate_d114 : decode prog_8_method_12_code 114 = .ok (.return_, 1) := by decide +kernel
theorem kS_clearBehind_d0 : decode prog_8_method_7_code 0 = .ok (.iload_n 1, 1) := by decide +kernel
theorem kS_clearBehind_d1 : decode prog_8_method_7_code 1 = .ok (.iconst 1, 1) := by decide +kernel
theorem kS_clearBehind_d2 : decode prog_8_method_7_code 2 = .ok (.iadd, 1) := by decide +kernel
theorem kS_clearBehind_d3 : decode prog_8_method_7_code 3 = .ok (.istore_n 2, 1) := by decide +kernel
theorem kS_clearBehind_d4 : decode prog_8_method_7_code 4 = .ok (.iload_n 2, 1) := by decide +kernel
theorem kS_clearBehind_d5 : decode prog_8_method_7_code 5 = .ok (.aload_n 0, 1) := by decide +kernel
theorem kS_clearBehind_d6 : decode prog_8_method_7_code 6 = .ok (.getfield 55, 3) := by decide +kernel
theorem kS_clearBehind_d9 : decode prog_8_method_7_code 9 = .ok (.if_icmp .ge 96, 3) := by decide +kernel
theorem kS_clearBehind_d12 : decode prog_8_method_7_code 12 = .ok (.aload_n 0, 1) := by decide +kernel
theorem kS_clearBehind_d13 : decode prog_8_method_7_code 13 = .ok (.iload_n 2, 1) := by decide +kernel
theorem kS_clearBehind_d14 : decode prog_8_method_7_code 14 = .ok (.iload_n 1, 1) := by decide +kernel
theorem kS_clearBehind_d15 : decode prog_8_method_7_code 15 = .ok (.invokevirtual 73, 3) := by decide +kernel
theorem kS_clearBehind_d18 : decode prog_8_method_7_code 18 = .ok (.getfield 96, 3) := by decide +kernel
theorem kS_clearBehind_d21 : decode prog_8_method_7_code 21 = .ok (.ifCond .le 78, 3) := by decide +kernel
theorem kS_clearBehind_d24 : decode prog_8_method_7_code 24 = .ok (.aload_n 0, 1) := by decide +kernel
theorem kS_clearBehind_d25 : decode prog_8_method_7_code 25 = .ok (.iload_n 1, 1) := by decide +kernel
theorem kS_clearBehind_d26 : decode prog_8_method_7_code 26 = .ok (.iload_n 1, 1) := by decide +kernel
theorem kS_clearBehind_d27 : decode prog_8_method_7_code 27 = .ok (.invokevirtual 73, 3) := by decide +kernel
theorem kS_clearBehind_d30 : decode prog_8_method_7_code 30 = .ok (.getfield 96, 3) := by decide +kernel
theorem kS_clearBehind_d33 : decode prog_8_method_7_code 33 = .ok (.ifCond .ne 12, 3) := by decide +kernel
theorem kS_clearBehind_d36 : decode prog_8_method_7_code 36 = .ok (.aload_n 0, 1) := by decide +kernel
theorem kS_clearBehind_d37 : decode prog_8_method_7_code 37 = .ok (.iload_n 2, 1) := by decide +kernel
theorem kS_clearBehind_d38 : decode prog_8_method_7_code 38 = .ok (.iload_n 1, 1) := by decide +kernel
theorem kS_clearBehind_d39 : decode prog_8_method_7_code 39 = .ok (.invokevirtual 99, 3) := by decide +kernel
theorem kS_clearBehind_d42 : decode prog_8_method_7_code 42 = .ok (.goto 57, 3) := by decide +kernel
theorem kS_clearBehind_d45 : decode prog_8_method_7_code 45 = .ok (.aload_n 0, 1) := by decide +kernel
theorem kS_clearBehind_d46 : decode prog_8_method_7_code 46 = .ok (.iload_n 2, 1) := by decide +kernel
theorem kS_clearBehind_d47 : decode prog_8_method_7_code 47 = .ok (.iload_n 1, 1) := by decide +kernel
theorem kS_clearBehind_d48 : decode prog_8_method_7_code 48 = .ok (.invokevirtual 103, 3) := by decide +kernel
theorem kS_clearBehind_d51 : decode prog_8_method_7_code 51 = .ok (.ifCond .eq 13, 3) := by decide +kernel
theorem kS_clearBehind_d54 : decode prog_8_method_7_code 54 = .ok (.aload_n 0, 1) := by decide +kernel
theorem kS_clearBehind_d55 : decode prog_8_method_7_code 55 = .ok (.iload_n 2, 1) := by decide +kernel
theorem kS_clearBehind_d56 : decode prog_8_method_7_code 56 = .ok (.iload_n 1, 1) := by decide +kernel
theorem kS_clearBehind_d57 : decode prog_8_method_7_code 57 = .ok (.iload_n 1, 1) := by decide +kernel
theorem kS_clearBehind_d58 : decode prog_8_method_7_code 58 = .ok (.invokevirtual 107, 3) := by decide +kernel
theorem kS_clearBehind_d61 : decode prog_8_method_7_code 61 = .ok (.goto 38, 3) := by decide +kernel
theorem kS_clearBehind_d64 : decode prog_8_method_7_code 64 = .ok (.aload_n 0, 1) := by decide +kernel
theorem kS_clearBehind_d65 : decode prog_8_method_7_code 65 = .ok (.getfield 46, 3) := by decide +kernel
theorem kS_clearBehind_d68 : decode prog_8_method_7_code 68 = .ok (.getfield 111, 3) := by decide +kernel
theorem kS_clearBehind_d71 : decode prog_8_method_7_code 71 = .ok (.aload_n 0, 1) := by decide +kernel
theorem kS_clearBehind_d72 : decode prog_8_method_7_code 72 = .ok (.iload_n 1, 1) := by decide +kernel
theorem kS_clearBehind_d73 : decode prog_8_method_7_code 73 = .ok (.iload_n 1, 1) := by decide +kernel
theorem kS_clearBehind_d74 : decode prog_8_method_7_code 74 = .ok (.invokevirtual 73, 3) := by decide +kernel
theorem kS_clearBehind_d77 : decode prog_8_method_7_code 77 = .ok (.aload_n 0, 1) := by decide +kernel
theorem kS_clearBehind_d78 : decode prog_8_method_7_code 78 = .ok (.iload_n 2, 1) := by decide +kernel
theorem kS_clearBehind_d79 : decode prog_8_method_7_code 79 = .ok (.iload_n 1, 1) := by decide +kernel
theorem kS_clearBehind_d80 : decode prog_8_method_7_code 80 = .ok (.invokevirtual 73, 3) := by decide +kernel
theorem kS_clearBehind_d83 : decode prog_8_method_7_code 83 = .ok (.iconst 1, 1) := by decide +kernel
theorem kS_clearBehind_d84 : decode prog_8_method_7_code 84 = .ok (.invokevirtual 115, 3) := by decide +kernel
theorem kS_clearBehind_d87 : decode prog_8_method_7_code 87 = .ok (.aload_n 0, 1) := by decide +kernel
theorem kS_clearBehind_d88 : decode prog_8_method_7_code 88 = .ok (.iload_n 2, 1) := by decide +kernel
theorem kS_clearBehind_d89 : decode prog_8_method_7_code 89 = .ok (.iload_n 1, 1) := by decide +kernel
theorem kS_clearBehind_d90 : decode prog_8_method_7_code 90 = .ok (.invokevirtual 120, 3) := by decide +kernel
theorem kS_clearBehind_d93 : decode prog_8_method_7_code 93 = .ok (.aload_n 0, 1) := by decide +kernel
theorem kS_clearBehind_d94 : decode prog_8_method_7_code 94 = .ok (.iload_n 2, 1) := by decide +kernel
theorem kS_clearBehind_d95 : decode prog_8_method_7_code 95 = .ok (.iload_n 1, 1) := by decide +kernel
theorem kS_clearBehind_d96 : decode prog_8_method_7_code 96 = .ok (.invokevirtual 123, 3) := by decide +kernel
theorem kS_clearBehind_d99 : decode prog_8_method_7_code 99 = .ok (.iinc 2 1, 3) := by decide +kernel
theorem kS_clearBehind_d102 : decode prog_8_method_7_code 102 = .ok (.goto (-98), 3) := by decide +kernel
theorem kS_clearBehind_d105 : decode prog_8_method_7_code 105 = .ok (.return_, 1) := by decide +kernel
theorem kS_swapLines_d0 : decode prog_8_method_6_code 0 = .ok (.iconst 0, 1) := by decide +kernel
theorem kS_swapLines_d1 : decode prog_8_method_6_code 1 = .ok (.istore_n 3, 1) := by decide +kernel
theorem kS_swapLines_d2 : decode prog_8_method_6_code 2 = .ok (.iload_n 3, 1) := by decide +kernel
theorem kS_swapLines_d3 : decode prog_8_method_6_code 3 = .ok (.aload_n 0, 1) := by decide +kernel
theorem kS_swapLines_d4 : decode prog_8_method_6_code 4 = .ok (.getfield 58, 3) := by decide +kernel
theorem kS_swapLines_d7 : decode prog_8_method_6_code 7 = .ok (.if_icmp .ge 61, 3) := by decide +kernel
theorem kS_swapLines_d10 : decode prog_8_method_6_code 10 = .ok (.aload_n 0, 1) := by decide +kernel
theorem kS_swapLines_d11 : decode prog_8_method_6_code 11 = .ok (.iload_n 1, 1) := by decide +kernel
theorem kS_swapLines_d12 : decode prog_8_method_6_code 12 = .ok (.iload_n 3, 1) := by decide +kernel
theorem kS_swapLines_d13 : decode prog_8_method_6_code 13 = .ok (.invokevirtual 73, 3) := by decide +kernel
theorem kS_swapLines_d16 : decode prog_8_method_6_code 16 = .ok (.astore 4, 2) := by decide +kernel
theorem kS_swapLines_d18 : decode prog_8_method_6_code 18 = .ok (.aload_n 0, 1) := by decide +kernel
theorem kS_swapLines_d19 : decode prog_8_method_6_code 19 = .ok (.getfield 20, 3) := by decide +kernel
theorem kS_swapLines_d22 : decode prog_8_method_6_code 22 = .ok (.iload_n 1, 1) := by decide +kernel
theorem kS_swapLines_d23 : decode prog_8_method_6_code 23 = .ok (.aload_n 0, 1) := by decide +kernel
theorem kS_swapLines_d24 : decode prog_8_method_6_code 24 = .ok (.getfield 9, 3) := by decide +kernel
theorem kS_swapLines_d27 : decode prog_8_method_6_code 27 = .ok (.imul, 1) := by decide +kernel
theorem kS_swapLines_d28 : decode prog_8_method_6_code 28 = .ok (.iload_n 3, 1) := by decide +kernel
theorem kS_swapLines_d29 : decode prog_8_method_6_code 29 = .ok (.aload_n 0, 1) := by decide +kernel
theorem kS_swapLines_d30 : decode prog_8_method_6_code 30 = .ok (.getfield 15, 3) := by decide +kernel
theorem kS_swapLines_d33 : decode prog_8_method_6_code 33 = .ok (.imul, 1) := by decide +kernel
theorem kS_swapLines_d34 : decode prog_8_method_6_code 34 = .ok (.iadd, 1) := by decide +kernel
theorem kS_swapLines_d35 : decode prog_8_method_6_code 35 = .ok (.aload_n 0, 1) := by decide +kernel
theorem kS_swapLines_d36 : decode prog_8_method_6_code 36 = .ok (.iload_n 2, 1) := by decide +kernel
theorem kS_swapLines_d37 : decode prog_8_method_6_code 37 = .ok (.iload_n 3, 1) := by decide +kernel
theorem kS_swapLines_d38 : decode prog_8_method_6_code 38 = .ok (.invokevirtual 73, 3) := by decide +kernel
theorem kS_swapLines_d41 : decode prog_8_method_6_code 41 = .ok (.aastore, 1) := by decide +kernel
theorem kS_swapLines_d42 : decode prog_8_method_6_code 42 = .ok (.aload_n 0, 1) := by decide +kernel
theorem kS_swapLines_d43 : decode prog_8_method_6_code 43 = .ok (.getfield 20, 3) := by decide +kernel
theorem kS_swapLines_d46 : decode prog_8_method_6_code 46 = .ok (.iload_n 2, 1) := by decide +kernel
theorem kS_swapLines_d47 : decode prog_8_method_6_code 47 = .ok (.aload_n 0, 1) := by decide +kernel
theorem kS_swapLines_d48 : decode prog_8_method_6_code 48 = .ok (.getfield 9, 3) := by decide +kernel
theorem kS_swapLines_d51 : decode prog_8_method_6_code 51 = .ok (.imul, 1) := by decide +kernel
theorem kS_swapLines_d52 : decode prog_8_method_6_code 52 = .ok (.iload_n 3, 1) := by decide +kernel
theorem kS_swapLines_d53 : decode prog_8_method_6_code 53 = .ok (.aload_n 0, 1) := by decide +kernel
theorem kS_swapLines_d54 : decode prog_8_method_6_code 54 = .ok (.getfield 15, 3) := by decide +kernel
theorem kS_swapLines_d57 : decode prog_8_method_6_code 57 = .ok (.imul, 1) := by decide +kernel
theorem kS_swapLines_d58 : decode prog_8_method_6_code 58 = .ok (.iadd, 1) := by decide +kernel
theorem kS_swapLines_d59 : decode prog_8_method_6_code 59 = .ok (.aload 4, 2) := by decide +kernel
theorem kS_swapLines_d61 : decode prog_8_method_6_code 61 = .ok (.aastore, 1) := by decide +kernel
theorem kS_swapLines_d62 : decode prog_8_method_6_code 62 = .ok (.iinc 3 1, 3) := by decide +kernel
theorem kS_swapLines_d65 : decode prog_8_method_6_code 65 = .ok (.goto (-63), 3) := by decide +kernel
theorem kS_swapLines_d68 : decode prog_8_method_6_code 68 = .ok (.return_, 1) := by decide +kernel
theorem kS_findMultiple_d0 : decode prog_8_method_8_code 0 = .ok (.aload_n 0, 1) := by decide +kernel
theorem kS_findMultiple_d1 : decode prog_8_method_8_code 1 = .ok (.iload_n 2, 1) := by decide +kernel
theorem kS_findMultiple_d2 : decode prog_8_method_8_code 2 = .ok (.iload_n 2, 1) := by decide +kernel
theorem kS_findMultiple_d3 : decode prog_8_method_8_code 3 = .ok (.invokevirtual 73, 3) := by decide +kernel
theorem kS_findMultiple_d6 : decode prog_8_method_8_code 6 = .ok (.aload_n 0, 1) := by decide +kernel
theorem kS_findMultiple_d7 : decode prog_8_method_8_code 7 = .ok (.iload_n 1, 1) := by decide +kernel
theorem kS_findMultiple_d8 : decode prog_8_method_8_code 8 = .ok (.iload_n 2, 1) := by decide +kernel
theorem kS_findMultiple_d9 : decode prog_8_method_8_code 9 = .ok (.invokevirtual 73, 3) := by decide +kernel
theorem kS_findMultiple_d12 : decode prog_8_method_8_code 12 = .ok (.invokevirtual 126, 3) := by decide +kernel
theorem kS_findMultiple_d15 : decode prog_8_method_8_code 15 = .ok (.ifCond .le 7, 3) := by decide +kernel
theorem kS_findMultiple_d18 : decode prog_8_method_8_code 18 = .ok (.iconst 1, 1) := by decide +kernel
theorem kS_findMultiple_d19 : decode prog_8_method_8_code 19 = .ok (.goto 4, 3) := by decide +kernel
theorem kS_findMultiple_d22 : decode prog_8_method_8_code 22 = .ok (.iconst 0, 1) := by decide +kernel
theorem kS_findMultiple_d23 : decode prog_8_method_8_code 23 = .ok (.istore_n 3, 1) := by decide +kernel
theorem kS_findMultiple_d24 : decode prog_8_method_8_code 24 = .ok (.iload_n 3, 1) := by decide +kernel
theorem kS_findMultiple_d25 : decode prog_8_method_8_code 25 = .ok (.ifCond .eq 12, 3) := by decide +kernel
theorem kS_findMultiple_d28 : decode prog_8_method_8_code 28 = .ok (.aload_n 0, 1) := by decide +kernel
theorem kS_findMultiple_d29 : decode prog_8_method_8_code 29 = .ok (.iload_n 2, 1) := by decide +kernel
theorem kS_findMultiple_d30 : decode prog_8_method_8_code 30 = .ok (.iload_n 2, 1) := by decide +kernel
theorem kS_findMultiple_d31 : decode prog_8_method_8_code 31 = .ok (.invokevirtual 73, 3) := by decide +kernel
theorem kS_findMultiple_d34 : decode prog_8_method_8_code 34 = .ok (.goto 9, 3) := by decide +kernel
theorem kS_findMultiple_d37 : decode prog_8_method_8_code 37 = .ok (.aload_n 0, 1) := by decide +kernel
theorem kS_findMultiple_d38 : decode prog_8_method_8_code 38 = .ok (.iload_n 1, 1) := by decide +kernel
theorem kS_findMultiple_d39 : decode prog_8_method_8_code 39 = .ok (.iload_n 2, 1) := by decide +kernel
theorem kS_findMultiple_d40 : decode prog_8_method_8_code 40 = .ok (.invokevirtual 73, 3) := by decide +kernel
theorem kS_findMultiple_d43 : decode prog_8_method_8_code 43 = .ok (.astore 4, 2) := by decide +kernel
theorem kS_findMultiple_d45 : decode prog_8_method_8_code 45 = .ok (.iload_n 3, 1) := by decide +kernel
theorem kS_findMultiple_d46 : decode prog_8_method_8_code 46 = .ok (.ifCond .eq 12, 3) := by decide +kernel
theorem kS_findMultiple_d49 : decode prog_8_method_8_code 49 = .ok (.aload_n 0, 1) := by decide +kernel
theorem kS_findMultiple_d50 : decode prog_8_method_8_code 50 = .ok (.iload_n 1, 1) := by decide +kernel
theorem kS_findMultiple_d51 : decode prog_8_method_8_code 51 = .ok (.iload_n 2, 1) := by decide +kernel
theorem kS_findMultiple_d52 : decode prog_8_method_8_code 52 = .ok (.invokevirtual 73, 3) := by decide +kernel
theorem kS_findMultiple_d55 : decode prog_8_method_8_code 55 = .ok (.goto 9, 3) := by decide +kernel
theorem kS_findMultiple_d58 : decode prog_8_method_8_code 58 = .ok (.aload_n 0, 1) := by decide +kernel
theorem kS_findMultiple_d59 : decode prog_8_method_8_code 59 = .ok (.iload_n 2, 1) := by decide +kernel
theorem kS_findMultiple_d60 : decode prog_8_method_8_code 60 = .ok (.iload_n 2, 1) := by decide +kernel
theorem kS_findMultiple_d61 : decode prog_8_method_8_code 61 = .ok (.invokevirtual 73, 3) := by decide +kernel
theorem kS_findMultiple_d64 : decode prog_8_method_8_code 64 = .ok (.astore 5, 2) := by decide +kernel
theorem kS_findMultiple_d66 : decode prog_8_method_8_code 66 = .ok (.aload_n 0, 1) := by decide +kernel
theorem kS_findMultiple_d67 : decode prog_8_method_8_code 67 = .ok (.getfield 46, 3) := by decide +kernel
theorem kS_findMultiple_d70 : decode prog_8_method_8_code 70 = .ok (.getfield 78, 3) := by decide +kernel
theorem kS_findMultiple_d73 : decode prog_8_method_8_code 73 = .ok (.aload 4, 2) := by decide +kernel
theorem kS_findMultiple_d75 : decode prog_8_method_8_code 75 = .ok (.aload 5, 2) := by decide +kernel
theorem kS_findMultiple_d77 : decode prog_8_method_8_code 77 = .ok (.invokevirtual 84, 3) := by decide +kernel
theorem kS_findMultiple_d80 : decode prog_8_method_8_code 80 = .ok (.aload_n 0, 1) := by decide +kernel
theorem kS_findMultiple_d81 : decode prog_8_method_8_code 81 = .ok (.getfield 46, 3) := by decide +kernel
theorem kS_findMultiple_d84 : decode prog_8_method_8_code 84 = .ok (.getfield 78, 3) := by decide +kernel
theorem kS_findMultiple_d87 : decode prog_8_method_8_code 87 = .ok (.getfield 89, 3) := by decide +kernel
theorem kS_findMultiple_d90 : decode prog_8_method_8_code 90 = .ok (.getfield 96, 3) := by decide +kernel
theorem kS_findMultiple_d93 : decode prog_8_method_8_code 93 = .ok (.ifCond .le 5, 3) := by decide +kernel
theorem kS_findMultiple_d96 : decode prog_8_method_8_code 96 = .ok (.iconst 0, 1) := by decide +kernel
theorem kS_findMultiple_d97 : decode prog_8_method_8_code 97 = .ok (.ireturn, 1) := by decide +kernel
theorem kS_findMultiple_d98 : decode prog_8_method_8_code 98 = .ok (.aload_n 0, 1) := by decide +kernel
theorem kS_findMultiple_d99 : decode prog_8_method_8_code 99 = .ok (.getfield 31, 3) := by decide +kernel
theorem kS_findMultiple_d102 : decode prog_8_method_8_code 102 = .ok (.aload_n 0, 1) := by decide +kernel
theorem kS_findMultiple_d103 : decode prog_8_method_8_code 103 = .ok (.getfield 46, 3) := by decide +kernel
theorem kS_findMultiple_d106 : decode prog_8_method_8_code 106 = .ok (.getfield 78, 3) := by decide +kernel
theorem kS_findMultiple_d109 : decode prog_8_method_8_code 109 = .ok (.getfield 130, 3) := by decide +kernel
theorem kS_findMultiple_d112 : decode prog_8_method_8_code 112 = .ok (.invokevirtual 61, 3) := by decide +kernel
theorem kS_findMultiple_d115 : decode prog_8_method_8_code 115 = .ok (.iload_n 3, 1) := by decide +kernel
theorem kS_findMultiple_d116 : decode prog_8_method_8_code 116 = .ok (.ifCond .eq 9, 3) := by decide +kernel
theorem kS_findMultiple_d119 : decode prog_8_method_8_code 119 = .ok (.aload_n 0, 1) := by decide +kernel
theorem kS_findMultiple_d120 : decode prog_8_method_8_code 120 = .ok (.iload_n 1, 1) := by decide +kernel
theorem kS_findMultiple_d121 : decode prog_8_method_8_code 121 = .ok (.iload_n 2, 1) := by decide +kernel
theorem kS_findMultiple_d122 : decode prog_8_method_8_code 122 = .ok (.invokevirtual 99, 3) := by decide +kernel
theorem kS_findMultiple_d125 : decode prog_8_method_8_code 125 = .ok (.iconst 1, 1) := by decide +kernel
theorem kS_findMultiple_d126 : decode prog_8_method_8_code 126 = .ok (.ireturn, 1) := by decide +kernel
theorem kS_subtractLine_d0 : decode prog_8_method_9_code 0 = .ok (.iload_n 3, 1) := by decide +kernel
theorem kS_subtractLine_d1 : decode prog_8_method_9_code 1 = .ok (.istore 4, 2) := by decide +kernel
theorem kS_subtractLine_d3 : decode prog_8_method_9_code 3 = .ok (.iload 4, 2) := by decide +kernel
theorem kS_subtractLine_d5 : decode prog_8_method_9_code 5 = .ok (.aload_n 0, 1) := by decide +kernel
theorem kS_subtractLine_d6 : decode prog_8_method_9_code 6 = .ok (.getfield 58, 3) := by decide +kernel
theorem kS_subtractLine_d9 : decode prog_8_method_9_code 9 = .ok (.if_icmp .ge 86, 3) := by decide +kernel
theorem kS_subtractLine_d12 : decode prog_8_method_9_code 12 = .ok (.aload_n 0, 1) := by decide +kernel
theorem kS_subtractLine_d13 : decode prog_8_method_9_code 13 = .ok (.iload_n 2, 1) := by decide +kernel
theorem kS_subtractLine_d14 : decode prog_8_method_9_code 14 = .ok (.iload 4, 2) := by decide +kernel
theorem kS_subtractLine_d16 : decode prog_8_method_9_code 16 = .ok (.invokevirtual 73, 3) := by decide +kernel
theorem kS_subtractLine_d19 : decode prog_8_method_9_code 19 = .ok (.getfield 96, 3) := by decide +kernel
theorem kS_subtractLine_d22 : decode prog_8_method_9_code 22 = .ok (.ifCond .le 67, 3) := by decide +kernel
theorem kS_subtractLine_d25 : decode prog_8_method_9_code 25 = .ok (.aload_n 0, 1) := by decide +kernel
theorem kS_subtractLine_d26 : decode prog_8_method_9_code 26 = .ok (.getfield 46, 3) := by decide +kernel
theorem kS_subtractLine_d29 : decode prog_8_method_9_code 29 = .ok (.getfield 133, 3) := by decide +kernel
theorem kS_subtractLine_d32 : decode prog_8_method_9_code 32 = .ok (.aload_n 0, 1) := by decide +kernel
theorem kS_subtractLine_d33 : decode prog_8_method_9_code 33 = .ok (.getfield 31, 3) := by decide +kernel
theorem kS_subtractLine_d36 : decode prog_8_method_9_code 36 = .ok (.aload_n 0, 1) := by decide +kernel
theorem kS_subtractLine_d37 : decode prog_8_method_9_code 37 = .ok (.iload_n 2, 1) := by decide +kernel
theorem kS_subtractLine_d38 : decode prog_8_method_9_code 38 = .ok (.iload 4, 2) := by decide +kernel
theorem kS_subtractLine_d40 : decode prog_8_method_9_code 40 = .ok (.invokevirtual 73, 3) := by decide +kernel
theorem kS_subtractLine_d43 : decode prog_8_method_9_code 43 = .ok (.invokevirtual 136, 3) := by decide +kernel
theorem kS_subtractLine_d46 : decode prog_8_method_9_code 46 = .ok (.aload_n 0, 1) := by decide +kernel
theorem kS_subtractLine_d47 : decode prog_8_method_9_code 47 = .ok (.getfield 46, 3) := by decide +kernel
theorem kS_subtractLine_d50 : decode prog_8_method_9_code 50 = .ok (.getfield 139, 3) := by decide +kernel
theorem kS_subtractLine_d53 : decode prog_8_method_9_code 53 = .ok (.aload_n 0, 1) := by decide +kernel
theorem kS_subtractLine_d54 : decode prog_8_method_9_code 54 = .ok (.iload_n 1, 1) := by decide +kernel
theorem kS_subtractLine_d55 : decode prog_8_method_9_code 55 = .ok (.iload 4, 2) := by decide +kernel
theorem kS_subtractLine_d57 : decode prog_8_method_9_code 57 = .ok (.invokevirtual 73, 3) := by decide +kernel
theorem kS_subtractLine_d60 : decode prog_8_method_9_code 60 = .ok (.aload_n 0, 1) := by decide +kernel
theorem kS_subtractLine_d61 : decode prog_8_method_9_code 61 = .ok (.getfield 46, 3) := by decide +kernel
theorem kS_subtractLine_d64 : decode prog_8_method_9_code 64 = .ok (.getfield 133, 3) := by decide +kernel
theorem kS_subtractLine_d67 : decode prog_8_method_9_code 67 = .ok (.iconst 1, 1) := by decide +kernel
theorem kS_subtractLine_d68 : decode prog_8_method_9_code 68 = .ok (.invokevirtual 92, 3) := by decide +kernel
theorem kS_subtractLine_d71 : decode prog_8_method_9_code 71 = .ok (.aload_n 0, 1) := by decide +kernel
theorem kS_subtractLine_d72 : decode prog_8_method_9_code 72 = .ok (.aload_n 0, 1) := by decide +kernel
theorem kS_subtractLine_d73 : decode prog_8_method_9_code 73 = .ok (.getfield 46, 3) := by decide +kernel
theorem kS_subtractLine_d76 : decode prog_8_method_9_code 76 = .ok (.getfield 139, 3) := by decide +kernel
theorem kS_subtractLine_d79 : decode prog_8_method_9_code 79 = .ok (.aload_n 0, 1) := by decide +kernel
theorem kS_subtractLine_d80 : decode prog_8_method_9_code 80 = .ok (.iload_n 1, 1) := by decide +kernel
theorem kS_subtractLine_d81 : decode prog_8_method_9_code 81 = .ok (.iload 4, 2) := by decide +kernel
theorem kS_subtractLine_d83 : decode prog_8_method_9_code 83 = .ok (.invokevirtual 73, 3) := by decide +kernel
theorem kS_subtractLine_d86 : decode prog_8_method_9_code 86 = .ok (.invokevirtual 74, 3) := by decide +kernel
theorem kS_subtractLine_d89 : decode prog_8_method_9_code 89 = .ok (.iinc 4 1, 3) := by decide +kernel
theorem kS_subtractLine_d92 : decode prog_8_method_9_code 92 = .ok (.goto (-89), 3) := by decide +kernel
theorem kS_subtractLine_d95 : decode prog_8_method_9_code 95 = .ok (.return_, 1) := by decide +kernel
theorem kS_findFactors_d0 : decode prog_8_method_10_code 0 = .ok (.aload_n 0, 1) := by decide +kernel
theorem kS_findFactors_d1 : decode prog_8_method_10_code 1 = .ok (.getfield 46, 3) := by decide +kernel
theorem kS_findFactors_d4 : decode prog_8_method_10_code 4 = .ok (.getfield 111, 3) := by decide +kernel
theorem kS_findFactors_d7 : decode prog_8_method_10_code 7 = .ok (.getfield 141, 3) := by decide +kernel
theorem kS_findFactors_d10 : decode prog_8_method_10_code 10 = .ok (.astore_n 3, 1) := by decide +kernel
theorem kS_findFactors_d11 : decode prog_8_method_10_code 11 = .ok (.aload_n 0, 1) := by decide +kernel
theorem kS_findFactors_d12 : decode prog_8_method_10_code 12 = .ok (.getfield 31, 3) := by decide +kernel
theorem kS_findFactors_d15 : decode prog_8_method_10_code 15 = .ok (.aload_n 0, 1) := by decide +kernel
theorem kS_findFactors_d16 : decode prog_8_method_10_code 16 = .ok (.getfield 46, 3) := by decide +kernel
theorem kS_findFactors_d19 : decode prog_8_method_10_code 19 = .ok (.getfield 111, 3) := by decide +kernel
theorem kS_findFactors_d22 : decode prog_8_method_10_code 22 = .ok (.getfield 144, 3) := by decide +kernel
theorem kS_findFactors_d25 : decode prog_8_method_10_code 25 = .ok (.invokevirtual 61, 3) := by decide +kernel
theorem kS_findFactors_d28 : decode prog_8_method_10_code 28 = .ok (.aload_n 0, 1) := by decide +kernel
theorem kS_findFactors_d29 : decode prog_8_method_10_code 29 = .ok (.getfield 46, 3) := by decide +kernel
theorem kS_findFactors_d32 : decode prog_8_method_10_code 32 = .ok (.getfield 133, 3) := by decide +kernel
theorem kS_findFactors_d35 : decode prog_8_method_10_code 35 = .ok (.aload_n 0, 1) := by decide +kernel
theorem kS_findFactors_d36 : decode prog_8_method_10_code 36 = .ok (.getfield 31, 3) := by decide +kernel
theorem kS_findFactors_d39 : decode prog_8_method_10_code 39 = .ok (.aload_n 0, 1) := by decide +kernel
theorem kS_findFactors_d40 : decode prog_8_method_10_code 40 = .ok (.iload_n 2, 1) := by decide +kernel
theorem kS_findFactors_d41 : decode prog_8_method_10_code 41 = .ok (.iload_n 2, 1) := by decide +kernel
theorem kS_findFactors_d42 : decode prog_8_method_10_code 42 = .ok (.invokevirtual 73, 3) := by decide +kernel
theorem kS_findFactors_d45 : decode prog_8_method_10_code 45 = .ok (.invokevirtual 136, 3) := by decide +kernel
theorem kS_findFactors_d48 : decode prog_8_method_10_code 48 = .ok (.aload_n 0, 1) := by decide +kernel
theorem kS_findFactors_d49 : decode prog_8_method_10_code 49 = .ok (.getfield 46, 3) := by decide +kernel
theorem kS_findFactors_d52 : decode prog_8_method_10_code 52 = .ok (.getfield 139, 3) := by decide +kernel
theorem kS_findFactors_d55 : decode prog_8_method_10_code 55 = .ok (.aload_n 3, 1) := by decide +kernel
theorem kS_findFactors_d56 : decode prog_8_method_10_code 56 = .ok (.aload_n 0, 1) := by decide +kernel
theorem kS_findFactors_d57 : decode prog_8_method_10_code 57 = .ok (.getfield 46, 3) := by decide +kernel
theorem kS_findFactors_d60 : decode prog_8_method_10_code 60 = .ok (.getfield 133, 3) := by decide +kernel
theorem kS_findFactors_d63 : decode prog_8_method_10_code 63 = .ok (.iconst 1, 1) := by decide +kernel
theorem kS_findFactors_d64 : decode prog_8_method_10_code 64 = .ok (.invokevirtual 92, 3) := by decide +kernel
theorem kS_findFactors_d67 : decode prog_8_method_10_code 67 = .ok (.aload_n 0, 1) := by decide +kernel
theorem kS_findFactors_d68 : decode prog_8_method_10_code 68 = .ok (.getfield 46, 3) := by decide +kernel
theorem kS_findFactors_d71 : decode prog_8_method_10_code 71 = .ok (.getfield 78, 3) := by decide +kernel
theorem kS_findFactors_d74 : decode prog_8_method_10_code 74 = .ok (.aload_n 0, 1) := by decide +kernel
theorem kS_findFactors_d75 : decode prog_8_method_10_code 75 = .ok (.getfield 46, 3) := by decide +kernel
theorem kS_findFactors_d78 : decode prog_8_method_10_code 78 = .ok (.getfield 139, 3) := by decide +kernel
theorem kS_findFactors_d81 : decode prog_8_method_10_code 81 = .ok (.aload_n 0, 1) := by decide +kernel
theorem kS_findFactors_d82 : decode prog_8_method_10_code 82 = .ok (.iload_n 1, 1) := by decide +kernel
theorem kS_findFactors_d83 : decode prog_8_method_10_code 83 = .ok (.iload_n 2, 1) := by decide +kernel
theorem kS_findFactors_d84 : decode prog_8_method_10_code 84 = .ok (.invokevirtual 73, 3) := by decide +kernel
theorem kS_findFactors_d87 : decode prog_8_method_10_code 87 = .ok (.invokevirtual 84, 3) := by decide +kernel
theorem kS_findFactors_d90 : decode prog_8_method_10_code 90 = .ok (.aload_n 0, 1) := by decide +kernel
theorem kS_findFactors_d91 : decode prog_8_method_10_code 91 = .ok (.getfield 34, 3) := by decide +kernel
theorem kS_findFactors_d94 : decode prog_8_method_10_code 94 = .ok (.aload_n 0, 1) := by decide +kernel
theorem kS_findFactors_d95 : decode prog_8_method_10_code 95 = .ok (.getfield 46, 3) := by decide +kernel
theorem kS_findFactors_d98 : decode prog_8_method_10_code 98 = .ok (.getfield 78, 3) := by decide +kernel
theorem kS_findFactors_d101 : decode prog_8_method_10_code 101 = .ok (.getfield 130, 3) := by decide +kernel
theorem kS_findFactors_d104 : decode prog_8_method_10_code 104 = .ok (.invokevirtual 61, 3) := by decide +kernel
theorem kS_findFactors_d107 : decode prog_8_method_10_code 107 = .ok (.aload_n 0, 1) := by decide +kernel
theorem kS_findFactors_d108 : decode prog_8_method_10_code 108 = .ok (.getfield 46, 3) := by decide +kernel
theorem kS_findFactors_d111 : decode prog_8_method_10_code 111 = .ok (.getfield 78, 3) := by decide +kernel
theorem kS_findFactors_d114 : decode prog_8_method_10_code 114 = .ok (.aload_n 0, 1) := by decide +kernel
theorem kS_findFactors_d115 : decode prog_8_method_10_code 115 = .ok (.iload_n 2, 1) := by decide +kernel
theorem kS_findFactors_d116 : decode prog_8_method_10_code 116 = .ok (.iload_n 2, 1) := by decide +kernel
theorem kS_findFactors_d117 : decode prog_8_method_10_code 117 = .ok (.invokevirtual 73, 3) := by decide +kernel
theorem kS_findFactors_d120 : decode prog_8_method_10_code 120 = .ok (.aload_n 3, 1) := by decide +kernel
theorem kS_findFactors_d121 : decode prog_8_method_10_code 121 = .ok (.invokevirtual 84, 3) := by decide +kernel
theorem kS_findFactors_d124 : decode prog_8_method_10_code 124 = .ok (.aload_n 0, 1) := by decide +kernel
theorem kS_findFactors_d125 : decode prog_8_method_10_code 125 = .ok (.getfield 37, 3) := by decide +kernel
theorem kS_findFactors_d128 : decode prog_8_method_10_code 128 = .ok (.aload_n 0, 1) := by decide +kernel
theorem kS_findFactors_d129 : decode prog_8_method_10_code 129 = .ok (.getfield 46, 3) := by decide +kernel
theorem kS_findFactors_d132 : decode prog_8_method_10_code 132 = .ok (.getfield 78, 3) := by decide +kernel
theorem kS_findFactors_d135 : decode prog_8_method_10_code 135 = .ok (.getfield 130, 3) := by decide +kernel
theorem kS_findFactors_d138 : decode prog_8_method_10_code 138 = .ok (.invokevirtual 61, 3) := by decide +kernel
theorem kS_findFactors_d141 : decode prog_8_method_10_code 141 = .ok (.aload_n 0, 1) := by decide +kernel
theorem kS_findFactors_d142 : decode prog_8_method_10_code 142 = .ok (.getfield 46, 3) := by decide +kernel
theorem kS_findFactors_d145 : decode prog_8_method_10_code 145 = .ok (.getfield 78, 3) := by decide +kernel
theorem kS_findFactors_d148 : decode prog_8_method_10_code 148 = .ok (.aload_n 0, 1) := by decide +kernel
theorem kS_findFactors_d149 : decode prog_8_method_10_code 149 = .ok (.iload_n 1, 1) := by decide +kernel
theorem kS_findFactors_d150 : decode prog_8_method_10_code 150 = .ok (.iload_n 2, 1) := by decide +kernel
theorem kS_findFactors_d151 : decode prog_8_method_10_code 151 = .ok (.invokevirtual 73, 3) := by decide +kernel
theorem kS_findFactors_d154 : decode prog_8_method_10_code 154 = .ok (.aload_n 3, 1) := by decide +kernel
theorem kS_findFactors_d155 : decode prog_8_method_10_code 155 = .ok (.invokevirtual 84, 3) := by decide +kernel
theorem kS_findFactors_d158 : decode prog_8_method_10_code 158 = .ok (.aload_n 0, 1) := by decide +kernel
theorem kS_findFactors_d159 : decode prog_8_method_10_code 159 = .ok (.getfield 40, 3) := by decide +kernel
theorem kS_findFactors_d162 : decode prog_8_method_10_code 162 = .ok (.aload_n 0, 1) := by decide +kernel
theorem kS_findFactors_d163 : decode prog_8_method_10_code 163 = .ok (.getfield 46, 3) := by decide +kernel
theorem kS_findFactors_d166 : decode prog_8_method_10_code 166 = .ok (.getfield 78, 3) := by decide +kernel
theorem kS_findFactors_d169 : decode prog_8_method_10_code 169 = .ok (.getfield 130, 3) := by decide +kernel
theorem kS_findFactors_d172 : decode prog_8_method_10_code 172 = .ok (.invokevirtual 61, 3) := by decide +kernel
theorem kS_findFactors_d175 : decode prog_8_method_10_code 175 = .ok (.return_, 1) := by decide +kernel
theorem kS_mixLines_d0 : decode prog_8_method_11_code 0 = .ok (.iload_n 2, 1) := by decide +kernel
theorem kS_mixLines_d1 : decode prog_8_method_11_code 1 = .ok (.istore_n 3, 1) := by decide +kernel
theorem kS_mixLines_d2 : decode prog_8_method_11_code 2 = .ok (.iload_n 3, 1) := by decide +kernel
theorem kS_mixLines_d3 : decode prog_8_method_11_code 3 = .ok (.aload_n 0, 1) := by decide +kernel
theorem kS_mixLines_d4 : decode prog_8_method_11_code 4 = .ok (.getfield 58, 3) := by decide +kernel
theorem kS_mixLines_d7 : decode prog_8_method_11_code 7 = .ok (.if_icmp .ge 134, 3) := by decide +kernel
theorem kS_mixLines_d10 : decode prog_8_method_11_code 10 = .ok (.aload_n 0, 1) := by decide +kernel
theorem kS_mixLines_d11 : decode prog_8_method_11_code 11 = .ok (.iload_n 2, 1) := by decide +kernel
theorem kS_mixLines_d12 : decode prog_8_method_11_code 12 = .ok (.iload_n 3, 1) := by decide +kernel
theorem kS_mixLines_d13 : decode prog_8_method_11_code 13 = .ok (.invokevirtual 73, 3) := by decide +kernel
theorem kS_mixLines_d16 : decode prog_8_method_11_code 16 = .ok (.getfield 96, 3) := by decide +kernel
theorem kS_mixLines_d19 : decode prog_8_method_11_code 19 = .ok (.ifCond .gt 15, 3) := by decide +kernel
theorem kS_mixLines_d22 : decode prog_8_method_11_code 22 = .ok (.aload_n 0, 1) := by decide +kernel
theorem kS_mixLines_d23 : decode prog_8_method_11_code 23 = .ok (.iload_n 1, 1) := by decide +kernel
theorem kS_mixLines_d24 : decode prog_8_method_11_code 24 = .ok (.iload_n 3, 1) := by decide +kernel
theorem kS_mixLines_d25 : decode prog_8_method_11_code 25 = .ok (.invokevirtual 73, 3) := by decide +kernel
theorem kS_mixLines_d28 : decode prog_8_method_11_code 28 = .ok (.getfield 96, 3) := by decide +kernel
theorem kS_mixLines_d31 : decode prog_8_method_11_code 31 = .ok (.ifCond .le 104, 3) := by decide +kernel
theorem kS_mixLines_d34 : decode prog_8_method_11_code 34 = .ok (.aload_n 0, 1) := by decide +kernel
theorem kS_mixLines_d35 : decode prog_8_method_11_code 35 = .ok (.getfield 46, 3) := by decide +kernel
theorem kS_mixLines_d38 : decode prog_8_method_11_code 38 = .ok (.aload_n 0, 1) := by decide +kernel
theorem kS_mixLines_d39 : decode prog_8_method_11_code 39 = .ok (.getfield 31, 3) := by decide +kernel
theorem kS_mixLines_d42 : decode prog_8_method_11_code 42 = .ok (.aload_n 0, 1) := by decide +kernel
theorem kS_mixLines_d43 : decode prog_8_method_11_code 43 = .ok (.iload_n 2, 1) := by decide +kernel
theorem kS_mixLines_d44 : decode prog_8_method_11_code 44 = .ok (.iload_n 3, 1) := by decide +kernel
theorem kS_mixLines_d45 : decode prog_8_method_11_code 45 = .ok (.invokevirtual 73, 3) := by decide +kernel
theorem kS_mixLines_d48 : decode prog_8_method_11_code 48 = .ok (.aload_n 0, 1) := by decide +kernel
theorem kS_mixLines_d49 : decode prog_8_method_11_code 49 = .ok (.getfield 34, 3) := by decide +kernel
theorem kS_mixLines_d52 : decode prog_8_method_11_code 52 = .ok (.aload_n 0, 1) := by decide +kernel
theorem kS_mixLines_d53 : decode prog_8_method_11_code 53 = .ok (.iload_n 1, 1) := by decide +kernel
theorem kS_mixLines_d54 : decode prog_8_method_11_code 54 = .ok (.iload_n 3, 1) := by decide +kernel
theorem kS_mixLines_d55 : decode prog_8_method_11_code 55 = .ok (.invokevirtual 73, 3) := by decide +kernel
theorem kS_mixLines_d58 : decode prog_8_method_11_code 58 = .ok (.iconst 0, 1) := by decide +kernel
theorem kS_mixLines_d59 : decode prog_8_method_11_code 59 = .ok (.invokevirtual 147, 3) := by decide +kernel
theorem kS_mixLines_d62 : decode prog_8_method_11_code 62 = .ok (.aload_n 0, 1) := by decide +kernel
theorem kS_mixLines_d63 : decode prog_8_method_11_code 63 = .ok (.getfield 43, 3) := by decide +kernel
theorem kS_mixLines_d66 : decode prog_8_method_11_code 66 = .ok (.aload_n 0, 1) := by decide +kernel
theorem kS_mixLines_d67 : decode prog_8_method_11_code 67 = .ok (.getfield 46, 3) := by decide +kernel
theorem kS_mixLines_d70 : decode prog_8_method_11_code 70 = .ok (.getfield 139, 3) := by decide +kernel
theorem kS_mixLines_d73 : decode prog_8_method_11_code 73 = .ok (.invokevirtual 61, 3) := by decide +kernel
theorem kS_mixLines_d76 : decode prog_8_method_11_code 76 = .ok (.aload_n 0, 1) := by decide +kernel
theorem kS_mixLines_d77 : decode prog_8_method_11_code 77 = .ok (.getfield 46, 3) := by decide +kernel
theorem kS_mixLines_d80 : decode prog_8_method_11_code 80 = .ok (.aload_n 0, 1) := by decide +kernel
theorem kS_mixLines_d81 : decode prog_8_method_11_code 81 = .ok (.getfield 37, 3) := by decide +kernel
theorem kS_mixLines_d84 : decode prog_8_method_11_code 84 = .ok (.aload_n 0, 1) := by decide +kernel
theorem kS_mixLines_d85 : decode prog_8_method_11_code 85 = .ok (.iload_n 1, 1) := by decide +kernel
theorem kS_mixLines_d86 : decode prog_8_method_11_code 86 = .ok (.iload_n 3, 1) := by decide +kernel
theorem kS_mixLines_d87 : decode prog_8_method_11_code 87 = .ok (.invokevirtual 73, 3) := by decide +kernel
theorem kS_mixLines_d90 : decode prog_8_method_11_code 90 = .ok (.aload_n 0, 1) := by decide +kernel
theorem kS_mixLines_d91 : decode prog_8_method_11_code 91 = .ok (.getfield 40, 3) := by decide +kernel
theorem kS_mixLines_d94 : decode prog_8_method_11_code 94 = .ok (.aload_n 0, 1) := by decide +kernel
theorem kS_mixLines_d95 : decode prog_8_method_11_code 95 = .ok (.iload_n 2, 1) := by decide +kernel
theorem kS_mixLines_d96 : decode prog_8_method_11_code 96 = .ok (.iload_n 3, 1) := by decide +kernel
theorem kS_mixLines_d97 : decode prog_8_method_11_code 97 = .ok (.invokevirtual 73, 3) := by decide +kernel
theorem kS_mixLines_d100 : decode prog_8_method_11_code 100 = .ok (.iconst 1, 1) := by decide +kernel
theorem kS_mixLines_d101 : decode prog_8_method_11_code 101 = .ok (.invokevirtual 147, 3) := by decide +kernel
theorem kS_mixLines_d104 : decode prog_8_method_11_code 104 = .ok (.aload_n 0, 1) := by decide +kernel
theorem kS_mixLines_d105 : decode prog_8_method_11_code 105 = .ok (.aload_n 0, 1) := by decide +kernel
theorem kS_mixLines_d106 : decode prog_8_method_11_code 106 = .ok (.getfield 46, 3) := by decide +kernel
theorem kS_mixLines_d109 : decode prog_8_method_11_code 109 = .ok (.getfield 139, 3) := by decide +kernel
theorem kS_mixLines_d112 : decode prog_8_method_11_code 112 = .ok (.aload_n 0, 1) := by decide +kernel
theorem kS_mixLines_d113 : decode prog_8_method_11_code 113 = .ok (.iload_n 1, 1) := by decide +kernel
theorem kS_mixLines_d114 : decode prog_8_method_11_code 114 = .ok (.iload_n 3, 1) := by decide +kernel
theorem kS_mixLines_d115 : decode prog_8_method_11_code 115 = .ok (.invokevirtual 73, 3) := by decide +kernel
theorem kS_mixLines_d118 : decode prog_8_method_11_code 118 = .ok (.invokevirtual 74, 3) := by decide +kernel
theorem kS_mixLines_d121 : decode prog_8_method_11_code 121 = .ok (.aload_n 0, 1) := by decide +kernel
theorem kS_mixLines_d122 : decode prog_8_method_11_code 122 = .ok (.aload_n 0, 1) := by decide +kernel
theorem kS_mixLines_d123 : decode prog_8_method_11_code 123 = .ok (.getfield 43, 3) := by decide +kernel
theorem kS_mixLines_d126 : decode prog_8_method_11_code 126 = .ok (.aload_n 0, 1) := by decide +kernel
theorem kS_mixLines_d127 : decode prog_8_method_11_code 127 = .ok (.iload_n 2, 1) := by decide +kernel
theorem kS_mixLines_d128 : decode prog_8_method_11_code 128 = .ok (.iload_n 3, 1) := by decide +kernel
theorem kS_mixLines_d129 : decode prog_8_method_11_code 129 = .ok (.invokevirtual 73, 3) := by decide +kernel
theorem kS_mixLines_d132 : decode prog_8_method_11_code 132 = .ok (.invokevirtual 74, 3) := by decide +kernel
theorem kS_mixLines_d135 : decode prog_8_method_11_code 135 = .ok (.iinc 3 1, 3) := by decide +kernel
theorem kS_mixLines_d138 : decode prog_8_method_11_code 138 = .ok (.goto (-136), 3) := by decide +kernel
theorem kS_mixLines_d141 : decode prog_8_method_11_code 141 = .ok (.return_, 1) := by decide +kernel
theorem kS_joinPivot_d0 : decode prog_8_method_13_code 0 = .ok (.aload_n 0, 1) := by decide +kernel
theorem kS_joinPivot_d1 : decode prog_8_method_13_code 1 = .ok (.iload_n 1, 1) := by decide +kernel
theorem kS_joinPivot_d2 : decode prog_8_method_13_code 2 = .ok (.iload_n 1, 1) := by decide +kernel
theorem kS_joinPivot_d3 : decode prog_8_method_13_code 3 = .ok (.invokevirtual 73, 3) := by decide +kernel
theorem kS_joinPivot_d6 : decode prog_8_method_13_code 6 = .ok (.astore_n 2, 1) := by decide +kernel
theorem kS_joinPivot_d7 : decode prog_8_method_13_code 7 = .ok (.aload_n 0, 1) := by decide +kernel
theorem kS_joinPivot_d8 : decode prog_8_method_13_code 8 = .ok (.getfield 46, 3) := by decide +kernel
theorem kS_joinPivot_d11 : decode prog_8_method_13_code 11 = .ok (.getfield 111, 3) := by decide +kernel
theorem kS_joinPivot_d14 : decode prog_8_method_13_code 14 = .ok (.aload_n 2, 1) := by decide +kernel
theorem kS_joinPivot_d15 : decode prog_8_method_13_code 15 = .ok (.aload_n 0, 1) := by decide +kernel
theorem kS_joinPivot_d16 : decode prog_8_method_13_code 16 = .ok (.getfield 27, 3) := by decide +kernel
theorem kS_joinPivot_d19 : decode prog_8_method_13_code 19 = .ok (.iconst 1, 1) := by decide +kernel
theorem kS_joinPivot_d20 : decode prog_8_method_13_code 20 = .ok (.invokevirtual 115, 3) := by decide +kernel
theorem kS_joinPivot_d23 : decode prog_8_method_13_code 23 = .ok (.aload_n 0, 1) := by decide +kernel
theorem kS_joinPivot_d24 : decode prog_8_method_13_code 24 = .ok (.getfield 31, 3) := by decide +kernel
theorem kS_joinPivot_d27 : decode prog_8_method_13_code 27 = .ok (.aload_n 0, 1) := by decide +kernel
theorem kS_joinPivot_d28 : decode prog_8_method_13_code 28 = .ok (.getfield 46, 3) := by decide +kernel
theorem kS_joinPivot_d31 : decode prog_8_method_13_code 31 = .ok (.getfield 111, 3) := by decide +kernel
theorem kS_joinPivot_d34 : decode prog_8_method_13_code 34 = .ok (.getfield 144, 3) := by decide +kernel
theorem kS_joinPivot_d37 : decode prog_8_method_13_code 37 = .ok (.invokevirtual 61, 3) := by decide +kernel
theorem kS_joinPivot_d40 : decode prog_8_method_13_code 40 = .ok (.aload_n 2, 1) := by decide +kernel
theorem kS_joinPivot_d41 : decode prog_8_method_13_code 41 = .ok (.aload_n 0, 1) := by decide +kernel
theorem kS_joinPivot_d42 : decode prog_8_method_13_code 42 = .ok (.getfield 46, 3) := by decide +kernel
theorem kS_joinPivot_d45 : decode prog_8_method_13_code 45 = .ok (.getfield 111, 3) := by decide +kernel
theorem kS_joinPivot_d48 : decode prog_8_method_13_code 48 = .ok (.getfield 141, 3) := by decide +kernel
theorem kS_joinPivot_d51 : decode prog_8_method_13_code 51 = .ok (.invokevirtual 61, 3) := by decide +kernel
theorem kS_joinPivot_d54 : decode prog_8_method_13_code 54 = .ok (.aload_n 0, 1) := by decide +kernel
theorem kS_joinPivot_d55 : decode prog_8_method_13_code 55 = .ok (.iload_n 1, 1) := by decide +kernel
theorem kS_joinPivot_d56 : decode prog_8_method_13_code 56 = .ok (.invokevirtual 157, 3) := by decide +kernel
theorem kS_joinPivot_d59 : decode prog_8_method_13_code 59 = .ok (.iload_n 1, 1) := by decide +kernel
theorem kS_joinPivot_d60 : decode prog_8_method_13_code 60 = .ok (.iconst 1, 1) := by decide +kernel
theorem kS_joinPivot_d61 : decode prog_8_method_13_code 61 = .ok (.iadd, 1) := by decide +kernel
theorem kS_joinPivot_d62 : decode prog_8_method_13_code 62 = .ok (.istore_n 3, 1) := by decide +kernel
theorem kS_joinPivot_d63 : decode prog_8_method_13_code 63 = .ok (.iload_n 3, 1) := by decide +kernel
theorem kS_joinPivot_d64 : decode prog_8_method_13_code 64 = .ok (.aload_n 0, 1) := by decide +kernel
theorem kS_joinPivot_d65 : decode prog_8_method_13_code 65 = .ok (.getfield 58, 3) := by decide +kernel
theorem kS_joinPivot_d68 : decode prog_8_method_13_code 68 = .ok (.if_icmp .ge 46, 3) := by decide +kernel
theorem kS_joinPivot_d71 : decode prog_8_method_13_code 71 = .ok (.aload_n 0, 1) := by decide +kernel
theorem kS_joinPivot_d72 : decode prog_8_method_13_code 72 = .ok (.getfield 46, 3) := by decide +kernel
theorem kS_joinPivot_d75 : decode prog_8_method_13_code 75 = .ok (.getfield 133, 3) := by decide +kernel
theorem kS_joinPivot_d78 : decode prog_8_method_13_code 78 = .ok (.aload_n 0, 1) := by decide +kernel
theorem kS_joinPivot_d79 : decode prog_8_method_13_code 79 = .ok (.getfield 31, 3) := by decide +kernel
theorem kS_joinPivot_d82 : decode prog_8_method_13_code 82 = .ok (.aload_n 0, 1) := by decide +kernel
theorem kS_joinPivot_d83 : decode prog_8_method_13_code 83 = .ok (.iload_n 1, 1) := by decide +kernel
theorem kS_joinPivot_d84 : decode prog_8_method_13_code 84 = .ok (.iload_n 3, 1) := by decide +kernel
theorem kS_joinPivot_d85 : decode prog_8_method_13_code 85 = .ok (.invokevirtual 73, 3) := by decide +kernel
theorem kS_joinPivot_d88 : decode prog_8_method_13_code 88 = .ok (.invokevirtual 136, 3) := by decide +kernel
theorem kS_joinPivot_d91 : decode prog_8_method_13_code 91 = .ok (.aload_n 0, 1) := by decide +kernel
theorem kS_joinPivot_d92 : decode prog_8_method_13_code 92 = .ok (.aload_n 0, 1) := by decide +kernel
theorem kS_joinPivot_d93 : decode prog_8_method_13_code 93 = .ok (.getfield 46, 3) := by decide +kernel
theorem kS_joinPivot_d96 : decode prog_8_method_13_code 96 = .ok (.getfield 133, 3) := by decide +kernel
theorem kS_joinPivot_d99 : decode prog_8_method_13_code 99 = .ok (.aload_n 0, 1) := by decide +kernel
theorem kS_joinPivot_d100 : decode prog_8_method_13_code 100 = .ok (.iload_n 1, 1) := by decide +kernel
theorem kS_joinPivot_d101 : decode prog_8_method_13_code 101 = .ok (.iload_n 3, 1) := by decide +kernel
theorem kS_joinPivot_d102 : decode prog_8_method_13_code 102 = .ok (.invokevirtual 73, 3) := by decide +kernel
theorem kS_joinPivot_d105 : decode prog_8_method_13_code 105 = .ok (.invokevirtual 74, 3) := by decide +kernel
theorem kS_joinPivot_d108 : decode prog_8_method_13_code 108 = .ok (.iinc 3 1, 3) := by decide +kernel
theorem kS_joinPivot_d111 : decode prog_8_method_13_code 111 = .ok (.goto (-48), 3) := by decide +kernel
theorem kS_joinPivot_d114 : decode prog_8_method_13_code 114 = .ok (.return_, 1) := by decide +kernel
theorem kS_divideModulus_d0 : decode prog_8_method_14_code 0 = .ok (.aload_n 0, 1) := by decide +kernel
theorem kS_divideModulus_d1 : decode prog_8_method_14_code 1 = .ok (.iload_n 1, 1) := by decide +kernel
theorem kS_divideModulus_d2 : decode prog_8_method_14_code 2 = .ok (.iload_n 1, 1) := by decide +kernel
theorem kS_divideModulus_d3 : decode prog_8_method_14_code 3 = .ok (.invokevirtual 73, 3) := by decide +kernel
theorem kS_divideModulus_d6 : decode prog_8_method_14_code 6 = .ok (.invokevirtual 160, 3) := by decide +kernel
theorem kS_divideModulus_d9 : decode prog_8_method_14_code 9 = .ok (.ifCond .eq 4, 3) := by decide +kernel
theorem kS_divideModulus_d12 : decode prog_8_method_14_code 12 = .ok (.return_, 1) := by decide +kernel
theorem kS_divideModulus_d13 : decode prog_8_method_14_code 13 = .ok (.aload_n 0, 1) := by decide +kernel
theorem kS_divideModulus_d14 : decode prog_8_method_14_code 14 = .ok (.getfield 46, 3) := by decide +kernel
theorem kS_divideModulus_d17 : decode prog_8_method_14_code 17 = .ok (.getfield 78, 3) := by decide +kernel
theorem kS_divideModulus_d20 : decode prog_8_method_14_code 20 = .ok (.aload_n 0, 1) := by decide +kernel
theorem kS_divideModulus_d21 : decode prog_8_method_14_code 21 = .ok (.getfield 27, 3) := by decide +kernel
theorem kS_divideModulus_d24 : decode prog_8_method_14_code 24 = .ok (.aload_n 0, 1) := by decide +kernel
theorem kS_divideModulus_d25 : decode prog_8_method_14_code 25 = .ok (.iload_n 1, 1) := by decide +kernel
theorem kS_divideModulus_d26 : decode prog_8_method_14_code 26 = .ok (.iload_n 1, 1) := by decide +kernel
theorem kS_divideModulus_d27 : decode prog_8_method_14_code 27 = .ok (.invokevirtual 73, 3) := by decide +kernel
theorem kS_divideModulus_d30 : decode prog_8_method_14_code 30 = .ok (.invokevirtual 84, 3) := by decide +kernel
theorem kS_divideModulus_d33 : decode prog_8_method_14_code 33 = .ok (.aload_n 0, 1) := by decide +kernel
theorem kS_divideModulus_d34 : decode prog_8_method_14_code 34 = .ok (.getfield 27, 3) := by decide +kernel
theorem kS_divideModulus_d37 : decode prog_8_method_14_code 37 = .ok (.aload_n 0, 1) := by decide +kernel
theorem kS_divideModulus_d38 : decode prog_8_method_14_code 38 = .ok (.getfield 46, 3) := by decide +kernel
theorem kS_divideModulus_d41 : decode prog_8_method_14_code 41 = .ok (.getfield 78, 3) := by decide +kernel
theorem kS_divideModulus_d44 : decode prog_8_method_14_code 44 = .ok (.getfield 130, 3) := by decide +kernel
theorem kS_divideModulus_d47 : decode prog_8_method_14_code 47 = .ok (.invokevirtual 61, 3) := by decide +kernel
theorem kS_divideModulus_d50 : decode prog_8_method_14_code 50 = .ok (.iload_n 1, 1) := by decide +kernel
theorem kS_divideModulus_d51 : decode prog_8_method_14_code 51 = .ok (.iconst 1, 1) := by decide +kernel
theorem kS_divideModulus_d52 : decode prog_8_method_14_code 52 = .ok (.iadd, 1) := by decide +kernel
theorem kS_divideModulus_d53 : decode prog_8_method_14_code 53 = .ok (.istore_n 2, 1) := by decide +kernel
theorem kS_divideModulus_d54 : decode prog_8_method_14_code 54 = .ok (.iload_n 2, 1) := by decide +kernel
theorem kS_divideModulus_d55 : decode prog_8_method_14_code 55 = .ok (.aload_n 0, 1) := by decide +kernel
theorem kS_divideModulus_d56 : decode prog_8_method_14_code 56 = .ok (.getfield 55, 3) := by decide +kernel
theorem kS_divideModulus_d59 : decode prog_8_method_14_code 59 = .ok (.if_icmp .ge 43, 3) := by decide +kernel
theorem kS_divideModulus_d62 : decode prog_8_method_14_code 62 = .ok (.iload_n 1, 1) := by decide +kernel
theorem kS_divideModulus_d63 : decode prog_8_method_14_code 63 = .ok (.iconst 1, 1) := by decide +kernel
theorem kS_divideModulus_d64 : decode prog_8_method_14_code 64 = .ok (.iadd, 1) := by decide +kernel
theorem kS_divideModulus_d65 : decode prog_8_method_14_code 65 = .ok (.istore_n 3, 1) := by decide +kernel
theorem kS_divideModulus_d66 : decode prog_8_method_14_code 66 = .ok (.iload_n 3, 1) := by decide +kernel
theorem kS_divideModulus_d67 : decode prog_8_method_14_code 67 = .ok (.aload_n 0, 1) := by decide +kernel
theorem kS_divideModulus_d68 : decode prog_8_method_14_code 68 = .ok (.getfield 58, 3) := by decide +kernel
theorem kS_divideModulus_d71 : decode prog_8_method_14_code 71 = .ok (.if_icmp .ge 25, 3) := by decide +kernel
theorem kS_divideModulus_d74 : decode prog_8_method_14_code 74 = .ok (.aload_n 0, 1) := by decide +kernel
theorem kS_divideModulus_d75 : decode prog_8_method_14_code 75 = .ok (.aload_n 0, 1) := by decide +kernel
theorem kS_divideModulus_d76 : decode prog_8_method_14_code 76 = .ok (.iload_n 2, 1) := by decide +kernel
theorem kS_divideModulus_d77 : decode prog_8_method_14_code 77 = .ok (.iload_n 3, 1) := by decide +kernel
theorem kS_divideModulus_d78 : decode prog_8_method_14_code 78 = .ok (.invokevirtual 73, 3) := by decide +kernel
theorem kS_divideModulus_d81 : decode prog_8_method_14_code 81 = .ok (.aload_n 0, 1) := by decide +kernel
theorem kS_divideModulus_d82 : decode prog_8_method_14_code 82 = .ok (.iload_n 2, 1) := by decide +kernel
theorem kS_divideModulus_d83 : decode prog_8_method_14_code 83 = .ok (.iload_n 3, 1) := by decide +kernel
theorem kS_divideModulus_d84 : decode prog_8_method_14_code 84 = .ok (.invokevirtual 73, 3) := by decide +kernel
theorem kS_divideModulus_d87 : decode prog_8_method_14_code 87 = .ok (.invokevirtual 74, 3) := by decide +kernel
theorem kS_divideModulus_d90 : decode prog_8_method_14_code 90 = .ok (.iinc 3 1, 3) := by decide +kernel
theorem kS_divideModulus_d93 : decode prog_8_method_14_code 93 = .ok (.goto (-27), 3) := by decide +kernel
theorem kS_divideModulus_d96 : decode prog_8_method_14_code 96 = .ok (.iinc 2 1, 3) := by decide +kernel
theorem kS_divideModulus_d99 : decode prog_8_method_14_code 99 = .ok (.goto (-45), 3) := by decide +kernel
theorem kS_divideModulus_d102 : decode prog_8_method_14_code 102 = .ok (.return_, 1) := by decide +kernel
theorem kS_isolate_d0 : decode prog_8_method_15_code 0 = .ok (.aload_n 0, 1) := by decide +kernel
theorem kS_isolate_d1 : decode prog_8_method_15_code 1 = .ok (.iload_n 1, 1) := by decide +kernel
theorem kS_isolate_d2 : decode prog_8_method_15_code 2 = .ok (.invokevirtual 164, 3) := by decide +kernel
theorem kS_isolate_d5 : decode prog_8_method_15_code 5 = .ok (.iconst 0, 1) := by decide +kernel
theorem kS_isolate_d6 : decode prog_8_method_15_code 6 = .ok (.istore_n 2, 1) := by decide +kernel
theorem kS_isolate_d7 : decode prog_8_method_15_code 7 = .ok (.iload_n 2, 1) := by decide +kernel
theorem kS_isolate_d8 : decode prog_8_method_15_code 8 = .ok (.ldc 167, 2) := by decide +kernel
theorem kS_isolate_d10 : decode prog_8_method_15_code 10 = .ok (.if_icmp .ge 57, 3) := by decide +kernel
theorem kS_isolate_d13 : decode prog_8_method_15_code 13 = .ok (.aload_n 0, 1) := by decide +kernel
theorem kS_isolate_d14 : decode prog_8_method_15_code 14 = .ok (.iload_n 1, 1) := by decide +kernel
theorem kS_isolate_d15 : decode prog_8_method_15_code 15 = .ok (.invokevirtual 151, 3) := by decide +kernel
theorem kS_isolate_d18 : decode prog_8_method_15_code 18 = .ok (.aload_n 0, 1) := by decide +kernel
theorem kS_isolate_d19 : decode prog_8_method_15_code 19 = .ok (.invokevirtual 168, 3) := by decide +kernel
theorem kS_isolate_d22 : decode prog_8_method_15_code 22 = .ok (.aload_n 0, 1) := by decide +kernel
theorem kS_isolate_d23 : decode prog_8_method_15_code 23 = .ok (.iload_n 1, 1) := by decide +kernel
theorem kS_isolate_d24 : decode prog_8_method_15_code 24 = .ok (.invokevirtual 151, 3) := by decide +kernel
theorem kS_isolate_d27 : decode prog_8_method_15_code 27 = .ok (.aload_n 0, 1) := by decide +kernel
theorem kS_isolate_d28 : decode prog_8_method_15_code 28 = .ok (.invokevirtual 168, 3) := by decide +kernel
theorem kS_isolate_d31 : decode prog_8_method_15_code 31 = .ok (.aload_n 0, 1) := by decide +kernel
theorem kS_isolate_d32 : decode prog_8_method_15_code 32 = .ok (.iload_n 1, 1) := by decide +kernel
theorem kS_isolate_d33 : decode prog_8_method_15_code 33 = .ok (.invokevirtual 171, 3) := by decide +kernel
theorem kS_isolate_d36 : decode prog_8_method_15_code 36 = .ok (.ifCond .eq 25, 3) := by decide +kernel
theorem kS_isolate_d39 : decode prog_8_method_15_code 39 = .ok (.aload_n 0, 1) := by decide +kernel
theorem kS_isolate_d40 : decode prog_8_method_15_code 40 = .ok (.iload_n 1, 1) := by decide +kernel
theorem kS_isolate_d41 : decode prog_8_method_15_code 41 = .ok (.invokevirtual 175, 3) := by decide +kernel
theorem kS_isolate_d44 : decode prog_8_method_15_code 44 = .ok (.aload_n 0, 1) := by decide +kernel
theorem kS_isolate_d45 : decode prog_8_method_15_code 45 = .ok (.iload_n 1, 1) := by decide +kernel
theorem kS_isolate_d46 : decode prog_8_method_15_code 46 = .ok (.invokevirtual 178, 3) := by decide +kernel
theorem kS_isolate_d49 : decode prog_8_method_15_code 49 = .ok (.istore_n 3, 1) := by decide +kernel
theorem kS_isolate_d50 : decode prog_8_method_15_code 50 = .ok (.iload_n 3, 1) := by decide +kernel
theorem kS_isolate_d51 : decode prog_8_method_15_code 51 = .ok (.ifCond .ge 4, 3) := by decide +kernel
theorem kS_isolate_d54 : decode prog_8_method_15_code 54 = .ok (.return_, 1) := by decide +kernel
theorem kS_isolate_d55 : decode prog_8_method_15_code 55 = .ok (.aload_n 0, 1) := by decide +kernel
theorem kS_isolate_d56 : decode prog_8_method_15_code 56 = .ok (.iload_n 3, 1) := by decide +kernel
theorem kS_isolate_d57 : decode prog_8_method_15_code 57 = .ok (.iload_n 1, 1) := by decide +kernel
theorem kS_isolate_d58 : decode prog_8_method_15_code 58 = .ok (.invokevirtual 182, 3) := by decide +kernel
theorem kS_isolate_d61 : decode prog_8_method_15_code 61 = .ok (.iinc 2 1, 3) := by decide +kernel
theorem kS_isolate_d64 : decode prog_8_method_15_code 64 = .ok (.goto (-57), 3) := by decide +kernel
theorem kS_isolate_d67 : decode prog_8_method_15_code 67 = .ok (.return_, 1) := by decide +kernel
theorem kS_fetchPivot_d0 : decode prog_8_method_16_code 0 = .ok (.iload_n 1, 1) := by decide +kernel
theorem kS_fetchPivot_d1 : decode prog_8_method_16_code 1 = .ok (.istore_n 2, 1) := by decide +kernel
theorem kS_fetchPivot_d2 : decode prog_8_method_16_code 2 = .ok (.iload_n 2, 1) := by decide +kernel
theorem kS_fetchPivot_d3 : decode prog_8_method_16_code 3 = .ok (.aload_n 0, 1) := by decide +kernel
theorem kS_fetchPivot_d4 : decode prog_8_method_16_code 4 = .ok (.getfield 55, 3) := by decide +kernel
theorem kS_fetchPivot_d7 : decode prog_8_method_16_code 7 = .ok (.if_icmp .ge 58, 3) := by decide +kernel
theorem kS_fetchPivot_d10 : decode prog_8_method_16_code 10 = .ok (.iload_n 1, 1) := by decide +kernel
theorem kS_fetchPivot_d11 : decode prog_8_method_16_code 11 = .ok (.istore_n 3, 1) := by decide +kernel
theorem kS_fetchPivot_d12 : decode prog_8_method_16_code 12 = .ok (.iload_n 3, 1) := by decide +kernel
theorem kS_fetchPivot_d13 : decode prog_8_method_16_code 13 = .ok (.aload_n 0, 1) := by decide +kernel
theorem kS_fetchPivot_d14 : decode prog_8_method_16_code 14 = .ok (.getfield 58, 3) := by decide +kernel
theorem kS_fetchPivot_d17 : decode prog_8_method_16_code 17 = .ok (.if_icmp .ge 42, 3) := by decide +kernel
theorem kS_fetchPivot_d20 : decode prog_8_method_16_code 20 = .ok (.aload_n 0, 1) := by decide +kernel
theorem kS_fetchPivot_d21 : decode prog_8_method_16_code 21 = .ok (.iload_n 2, 1) := by decide +kernel
theorem kS_fetchPivot_d22 : decode prog_8_method_16_code 22 = .ok (.iload_n 3, 1) := by decide +kernel
theorem kS_fetchPivot_d23 : decode prog_8_method_16_code 23 = .ok (.invokevirtual 73, 3) := by decide +kernel
theorem kS_fetchPivot_d26 : decode prog_8_method_16_code 26 = .ok (.getfield 96, 3) := by decide +kernel
theorem kS_fetchPivot_d29 : decode prog_8_method_16_code 29 = .ok (.ifCond .le 24, 3) := by decide +kernel
theorem kS_fetchPivot_d32 : decode prog_8_method_16_code 32 = .ok (.aload_n 0, 1) := by decide +kernel
theorem kS_fetchPivot_d33 : decode prog_8_method_16_code 33 = .ok (.iload_n 2, 1) := by decide +kernel
theorem kS_fetchPivot_d34 : decode prog_8_method_16_code 34 = .ok (.iload_n 1, 1) := by decide +kernel
theorem kS_fetchPivot_d35 : decode prog_8_method_16_code 35 = .ok (.invokevirtual 99, 3) := by decide +kernel
theorem kS_fetchPivot_d38 : decode prog_8_method_16_code 38 = .ok (.aload_n 0, 1) := by decide +kernel
theorem kS_fetchPivot_d39 : decode prog_8_method_16_code 39 = .ok (.invokevirtual 168, 3) := by decide +kernel
theorem kS_fetchPivot_d42 : decode prog_8_method_16_code 42 = .ok (.aload_n 0, 1) := by decide +kernel
theorem kS_fetchPivot_d43 : decode prog_8_method_16_code 43 = .ok (.iload_n 3, 1) := by decide +kernel
theorem kS_fetchPivot_d44 : decode prog_8_method_16_code 44 = .ok (.iload_n 1, 1) := by decide +kernel
theorem kS_fetchPivot_d45 : decode prog_8_method_16_code 45 = .ok (.invokevirtual 99, 3) := by decide +kernel
theorem kS_fetchPivot_d48 : decode prog_8_method_16_code 48 = .ok (.aload_n 0, 1) := by decide +kernel
theorem kS_fetchPivot_d49 : decode prog_8_method_16_code 49 = .ok (.invokevirtual 168, 3) := by decide +kernel
theorem kS_fetchPivot_d52 : decode prog_8_method_16_code 52 = .ok (.return_, 1) := by decide +kernel
theorem kS_fetchPivot_d53 : decode prog_8_method_16_code 53 = .ok (.iinc 3 1, 3) := by decide +kernel
theorem kS_fetchPivot_d56 : decode prog_8_method_16_code 56 = .ok (.goto (-44), 3) := by decide +kernel
theorem kS_fetchPivot_d59 : decode prog_8_method_16_code 59 = .ok (.iinc 2 1, 3) := by decide +kernel
theorem kS_fetchPivot_d62 : decode prog_8_method_16_code 62 = .ok (.goto (-60), 3) := by decide +kernel
theorem kS_fetchPivot_d65 : decode prog_8_method_16_code 65 = .ok (.return_, 1) := by decide +kernel
theorem kS_turnOver_d0 : decode prog_8_method_5_code 0 = .ok (.aload_n 0, 1) := by decide +kernel
theorem kS_turnOver_d1 : decode prog_8_method_5_code 1 = .ok (.getfield 9, 3) := by decide +kernel
theorem kS_turnOver_d4 : decode prog_8_method_5_code 4 = .ok (.istore_n 1, 1) := by decide +kernel
theorem kS_turnOver_d5 : decode prog_8_method_5_code 5 = .ok (.aload_n 0, 1) := by decide +kernel
theorem kS_turnOver_d6 : decode prog_8_method_5_code 6 = .ok (.aload_n 0, 1) := by decide +kernel
theorem kS_turnOver_d7 : decode prog_8_method_5_code 7 = .ok (.getfield 15, 3) := by decide +kernel
theorem kS_turnOver_d10 : decode prog_8_method_5_code 10 = .ok (.putfield 9, 3) := by decide +kernel
theorem kS_turnOver_d13 : decode prog_8_method_5_code 13 = .ok (.aload_n 0, 1) := by decide +kernel
theorem kS_turnOver_d14 : decode prog_8_method_5_code 14 = .ok (.iload_n 1, 1) := by decide +kernel
theorem kS_turnOver_d15 : decode prog_8_method_5_code 15 = .ok (.putfield 15, 3) := by decide +kernel
theorem kS_turnOver_d18 : decode prog_8_method_5_code 18 = .ok (.aload_n 0, 1) := by decide +kernel
theorem kS_turnOver_d19 : decode prog_8_method_5_code 19 = .ok (.getfield 55, 3) := by decide +kernel
theorem kS_turnOver_d22 : decode prog_8_method_5_code 22 = .ok (.istore_n 2, 1) := by decide +kernel
theorem kS_turnOver_d23 : decode prog_8_method_5_code 23 = .ok (.aload_n 0, 1) := by decide +kernel
theorem kS_turnOver_d24 : decode prog_8_method_5_code 24 = .ok (.aload_n 0, 1) := by decide +kernel
theorem kS_turnOver_d25 : decode prog_8_method_5_code 25 = .ok (.getfield 58, 3) := by decide +kernel
theorem kS_turnOver_d28 : decode prog_8_method_5_code 28 = .ok (.putfield 55, 3) := by decide +kernel
theorem kS_turnOver_d31 : decode prog_8_method_5_code 31 = .ok (.aload_n 0, 1) := by decide +kernel
theorem kS_turnOver_d32 : decode prog_8_method_5_code 32 = .ok (.iload_n 2, 1) := by decide +kernel
theorem kS_turnOver_d33 : decode prog_8_method_5_code 33 = .ok (.putfield 58, 3) := by decide +kernel
theorem kS_turnOver_d36 : decode prog_8_method_5_code 36 = .ok (.return_, 1) := by decide +kernel
theorem kS_isClearBehind_d0 : decode prog_8_method_17_code 0 = .ok (.iload_n 1, 1) := by decide +kernel
theorem kS_isClearBehind_d1 : decode prog_8_method_17_code 1 = .ok (.iconst 1, 1) := by decide +kernel
theorem kS_isClearBehind_d2 : decode prog_8_method_17_code 2 = .ok (.iadd, 1) := by decide +kernel
theorem kS_isClearBehind_d3 : decode prog_8_method_17_code 3 = .ok (.istore_n 2, 1) := by decide +kernel
theorem kS_isClearBehind_d4 : decode prog_8_method_17_code 4 = .ok (.iload_n 2, 1) := by decide +kernel
theorem kS_isClearBehind_d5 : decode prog_8_method_17_code 5 = .ok (.aload_n 0, 1) := by decide +kernel
theorem kS_isClearBehind_d6 : decode prog_8_method_17_code 6 = .ok (.getfield 55, 3) := by decide +kernel
theorem kS_isClearBehind_d9 : decode prog_8_method_17_code 9 = .ok (.if_icmp .ge 23, 3) := by decide +kernel
theorem kS_isClearBehind_d12 : decode prog_8_method_17_code 12 = .ok (.aload_n 0, 1) := by decide +kernel
theorem kS_isClearBehind_d13 : decode prog_8_method_17_code 13 = .ok (.iload_n 2, 1) := by decide +kernel
theorem kS_isClearBehind_d14 : decode prog_8_method_17_code 14 = .ok (.iload_n 1, 1) := by decide +kernel
theorem kS_isClearBehind_d15 : decode prog_8_method_17_code 15 = .ok (.invokevirtual 73, 3) := by decide +kernel
theorem kS_isClearBehind_d18 : decode prog_8_method_17_code 18 = .ok (.getfield 96, 3) := by decide +kernel
theorem kS_isClearBehind_d21 : decode prog_8_method_17_code 21 = .ok (.ifCond .le 5, 3) := by decide +kernel
theorem kS_isClearBehind_d24 : decode prog_8_method_17_code 24 = .ok (.iconst 0, 1) := by decide +kernel
theorem kS_isClearBehind_d25 : decode prog_8_method_17_code 25 = .ok (.ireturn, 1) := by decide +kernel
theorem kS_isClearBehind_d26 : decode prog_8_method_17_code 26 = .ok (.iinc 2 1, 3) := by decide +kernel
theorem kS_isClearBehind_d29 : decode prog_8_method_17_code 29 = .ok (.goto (-25), 3) := by decide +kernel
theorem kS_isClearBehind_d32 : decode prog_8_method_17_code 32 = .ok (.iconst 1, 1) := by decide +kernel
theorem kS_isClearBehind_d33 : decode prog_8_method_17_code 33 = .ok (.ireturn, 1) := by decide +kernel
theorem kS_joinModulus_d0 : decode prog_8_method_18_code 0 = .ok (.aload_n 0, 1) := by decide +kernel
theorem kS_joinModulus_d1 : decode prog_8_method_18_code 1 = .ok (.getfield 46, 3) := by decide +kernel
theorem kS_joinModulus_d4 : decode prog_8_method_18_code 4 = .ok (.getfield 111, 3) := by decide +kernel
theorem kS_joinModulus_d7 : decode prog_8_method_18_code 7 = .ok (.aload_n 0, 1) := by decide +kernel
theorem kS_joinModulus_d8 : decode prog_8_method_18_code 8 = .ok (.iload_n 1, 1) := by decide +kernel
theorem kS_joinModulus_d9 : decode prog_8_method_18_code 9 = .ok (.iload_n 1, 1) := by decide +kernel
theorem kS_joinModulus_d10 : decode prog_8_method_18_code 10 = .ok (.invokevirtual 73, 3) := by decide +kernel
theorem kS_joinModulus_d13 : decode prog_8_method_18_code 13 = .ok (.aload_n 0, 1) := by decide +kernel
theorem kS_joinModulus_d14 : decode prog_8_method_18_code 14 = .ok (.getfield 27, 3) := by decide +kernel
theorem kS_joinModulus_d17 : decode prog_8_method_18_code 17 = .ok (.iconst 0, 1) := by decide +kernel
theorem kS_joinModulus_d18 : decode prog_8_method_18_code 18 = .ok (.invokevirtual 115, 3) := by decide +kernel
theorem kS_joinModulus_d21 : decode prog_8_method_18_code 21 = .ok (.aload_n 0, 1) := by decide +kernel
theorem kS_joinModulus_d22 : decode prog_8_method_18_code 22 = .ok (.iload_n 1, 1) := by decide +kernel
theorem kS_joinModulus_d23 : decode prog_8_method_18_code 23 = .ok (.iload_n 1, 1) := by decide +kernel
theorem kS_joinModulus_d24 : decode prog_8_method_18_code 24 = .ok (.invokevirtual 73, 3) := by decide +kernel
theorem kS_joinModulus_d27 : decode prog_8_method_18_code 27 = .ok (.aload_n 0, 1) := by decide +kernel
theorem kS_joinModulus_d28 : decode prog_8_method_18_code 28 = .ok (.getfield 46, 3) := by decide +kernel
theorem kS_joinModulus_d31 : decode prog_8_method_18_code 31 = .ok (.getfield 111, 3) := by decide +kernel
theorem kS_joinModulus_d34 : decode prog_8_method_18_code 34 = .ok (.getfield 141, 3) := by decide +kernel
theorem kS_joinModulus_d37 : decode prog_8_method_18_code 37 = .ok (.invokevirtual 61, 3) := by decide +kernel
theorem kS_joinModulus_d40 : decode prog_8_method_18_code 40 = .ok (.return_, 1) := by decide +kernel
theorem kS_lineNotDivided_d0 : decode prog_8_method_19_code 0 = .ok (.iload_n 1, 1) := by decide +kernel
theorem kS_lineNotDivided_d1 : decode prog_8_method_19_code 1 = .ok (.iconst 1, 1) := by decide +kernel
theorem kS_lineNotDivided_d2 : decode prog_8_method_19_code 2 = .ok (.iadd, 1) := by decide +kernel
theorem kS_lineNotDivided_d3 : decode prog_8_method_19_code 3 = .ok (.istore_n 2, 1) := by decide +kernel
theorem kS_lineNotDivided_d4 : decode prog_8_method_19_code 4 = .ok (.iload_n 2, 1) := by decide +kernel
theorem kS_lineNotDivided_d5 : decode prog_8_method_19_code 5 = .ok (.aload_n 0, 1) := by decide +kernel
theorem kS_lineNotDivided_d6 : decode prog_8_method_19_code 6 = .ok (.getfield 55, 3) := by decide +kernel
theorem kS_lineNotDivided_d9 : decode prog_8_method_19_code 9 = .ok (.if_icmp .ge 79, 3) := by decide +kernel
theorem kS_lineNotDivided_d12 : decode prog_8_method_19_code 12 = .ok (.aload_n 0, 1) := by decide +kernel
theorem kS_lineNotDivided_d13 : decode prog_8_method_19_code 13 = .ok (.iload_n 1, 1) := by decide +kernel
theorem kS_lineNotDivided_d14 : decode prog_8_method_19_code 14 = .ok (.iload_n 1, 1) := by decide +kernel
theorem kS_lineNotDivided_d15 : decode prog_8_method_19_code 15 = .ok (.invokevirtual 73, 3) := by decide +kernel
theorem kS_lineNotDivided_d18 : decode prog_8_method_19_code 18 = .ok (.invokevirtual 160, 3) := by decide +kernel
theorem kS_lineNotDivided_d21 : decode prog_8_method_19_code 21 = .ok (.ifCond .ne 67, 3) := by decide +kernel
theorem kS_lineNotDivided_d24 : decode prog_8_method_19_code 24 = .ok (.iload_n 1, 1) := by decide +kernel
theorem kS_lineNotDivided_d25 : decode prog_8_method_19_code 25 = .ok (.iconst 1, 1) := by decide +kernel
theorem kS_lineNotDivided_d26 : decode prog_8_method_19_code 26 = .ok (.iadd, 1) := by decide +kernel
theorem kS_lineNotDivided_d27 : decode prog_8_method_19_code 27 = .ok (.istore_n 3, 1) := by decide +kernel
theorem kS_lineNotDivided_d28 : decode prog_8_method_19_code 28 = .ok (.iload_n 3, 1) := by decide +kernel
theorem kS_lineNotDivided_d29 : decode prog_8_method_19_code 29 = .ok (.aload_n 0, 1) := by decide +kernel
theorem kS_lineNotDivided_d30 : decode prog_8_method_19_code 30 = .ok (.getfield 58, 3) := by decide +kernel
theorem kS_lineNotDivided_d33 : decode prog_8_method_19_code 33 = .ok (.if_icmp .ge 49, 3) := by decide +kernel
theorem kS_lineNotDivided_d36 : decode prog_8_method_19_code 36 = .ok (.aload_n 0, 1) := by decide +kernel
theorem kS_lineNotDivided_d37 : decode prog_8_method_19_code 37 = .ok (.getfield 46, 3) := by decide +kernel
theorem kS_lineNotDivided_d40 : decode prog_8_method_19_code 40 = .ok (.getfield 78, 3) := by decide +kernel
theorem kS_lineNotDivided_d43 : decode prog_8_method_19_code 43 = .ok (.aload_n 0, 1) := by decide +kernel
theorem kS_lineNotDivided_d44 : decode prog_8_method_19_code 44 = .ok (.iload_n 2, 1) := by decide +kernel
theorem kS_lineNotDivided_d45 : decode prog_8_method_19_code 45 = .ok (.iload_n 3, 1) := by decide +kernel
theorem kS_lineNotDivided_d46 : decode prog_8_method_19_code 46 = .ok (.invokevirtual 73, 3) := by decide +kernel
theorem kS_lineNotDivided_d49 : decode prog_8_method_19_code 49 = .ok (.aload_n 0, 1) := by decide +kernel
theorem kS_lineNotDivided_d50 : decode prog_8_method_19_code 50 = .ok (.iload_n 1, 1) := by decide +kernel
theorem kS_lineNotDivided_d51 : decode prog_8_method_19_code 51 = .ok (.iload_n 1, 1) := by decide +kernel
theorem kS_lineNotDivided_d52 : decode prog_8_method_19_code 52 = .ok (.invokevirtual 73, 3) := by decide +kernel
theorem kS_lineNotDivided_d55 : decode prog_8_method_19_code 55 = .ok (.invokevirtual 84, 3) := by decide +kernel
theorem kS_lineNotDivided_d58 : decode prog_8_method_19_code 58 = .ok (.aload_n 0, 1) := by decide +kernel
theorem kS_lineNotDivided_d59 : decode prog_8_method_19_code 59 = .ok (.getfield 46, 3) := by decide +kernel
theorem kS_lineNotDivided_d62 : decode prog_8_method_19_code 62 = .ok (.getfield 78, 3) := by decide +kernel
theorem kS_lineNotDivided_d65 : decode prog_8_method_19_code 65 = .ok (.getfield 89, 3) := by decide +kernel
theorem kS_lineNotDivided_d68 : decode prog_8_method_19_code 68 = .ok (.getfield 96, 3) := by decide +kernel
theorem kS_lineNotDivided_d71 : decode prog_8_method_19_code 71 = .ok (.ifCond .le 5, 3) := by decide +kernel
theorem kS_lineNotDivided_d74 : decode prog_8_method_19_code 74 = .ok (.iload_n 2, 1) := by decide +kernel
theorem kS_lineNotDivided_d75 : decode prog_8_method_19_code 75 = .ok (.ireturn, 1) := by decide +kernel
theorem kS_lineNotDivided_d76 : decode prog_8_method_19_code 76 = .ok (.iinc 3 1, 3) := by decide +kernel
theorem kS_lineNotDivided_d79 : decode prog_8_method_19_code 79 = .ok (.goto (-51), 3) := by decide +kernel
theorem kS_lineNotDivided_d82 : decode prog_8_method_19_code 82 = .ok (.iinc 2 1, 3) := by decide +kernel
theorem kS_lineNotDivided_d85 : decode prog_8_method_19_code 85 = .ok (.goto (-81), 3) := by decide +kernel
theorem kS_lineNotDivided_d88 : decode prog_8_method_19_code 88 = .ok (.iconst (-1), 1) := by decide +kernel
theorem kS_lineNotDivided_d89 : decode prog_8_method_19_code 89 = .ok (.ireturn, 1) := by decide +kernel
theorem kS_copyLine_d0 : decode prog_8_method_20_code 0 = .ok (.iload_n 2, 1) := by decide +kernel
theorem kS_copyLine_d1 : decode prog_8_method_20_code 1 = .ok (.iconst 1, 1) := by decide +kernel
theorem kS_copyLine_d2 : decode prog_8_method_20_code 2 = .ok (.iadd, 1) := by decide +kernel
theorem kS_copyLine_d3 : decode prog_8_method_20_code 3 = .ok (.istore_n 3, 1) := by decide +kernel
theorem kS_copyLine_d4 : decode prog_8_method_20_code 4 = .ok (.iload_n 3, 1) := by decide +kernel
theorem kS_copyLine_d5 : decode prog_8_method_20_code 5 = .ok (.aload_n 0, 1) := by decide +kernel
theorem kS_copyLine_d6 : decode prog_8_method_20_code 6 = .ok (.getfield 58, 3) := by decide +kernel
theorem kS_copyLine_d9 : decode prog_8_method_20_code 9 = .ok (.if_icmp .ge 24, 3) := by decide +kernel
theorem kS_copyLine_d12 : decode prog_8_method_20_code 12 = .ok (.aload_n 0, 1) := by decide +kernel
theorem kS_copyLine_d13 : decode prog_8_method_20_code 13 = .ok (.iload_n 2, 1) := by decide +kernel
theorem kS_copyLine_d14 : decode prog_8_method_20_code 14 = .ok (.iload_n 3, 1) := by decide +kernel
theorem kS_copyLine_d15 : decode prog_8_method_20_code 15 = .ok (.invokevirtual 73, 3) := by decide +kernel
theorem kS_copyLine_d18 : decode prog_8_method_20_code 18 = .ok (.aload_n 0, 1) := by decide +kernel
theorem kS_copyLine_d19 : decode prog_8_method_20_code 19 = .ok (.iload_n 1, 1) := by decide +kernel
theorem kS_copyLine_d20 : decode prog_8_method_20_code 20 = .ok (.iload_n 3, 1) := by decide +kernel
theorem kS_copyLine_d21 : decode prog_8_method_20_code 21 = .ok (.invokevirtual 73, 3) := by decide +kernel
theorem kS_copyLine_d24 : decode prog_8_method_20_code 24 = .ok (.invokevirtual 61, 3) := by decide +kernel
theorem kS_copyLine_d27 : decode prog_8_method_20_code 27 = .ok (.iinc 3 1, 3) := by decide +kernel
theorem kS_copyLine_d30 : decode prog_8_method_20_code 30 = .ok (.goto (-26), 3) := by decide +kernel
theorem kS_copyLine_d33 : decode prog_8_method_20_code 33 = .ok (.return_, 1) := by decide +kernel
