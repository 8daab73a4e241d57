/-! decode rows of ExactForms -/
theorem kX_init_d0 : decode prog_1_method_1_code 0 = .ok (.aload_n 0, 1) := by decide +kernel
theorem kX_init_d1 : decode prog_1_method_1_code 1 = .ok (.invokespecial 3, 3) := by decide +kernel
theorem kX_init_d4 : decode prog_1_method_1_code 4 = .ok (.aload_n 0, 1) := by decide +kernel
theorem kX_init_d5 : decode prog_1_method_1_code 5 = .ok (.bipush 8, 2) := by decide +kernel
theorem kX_init_d7 : decode prog_1_method_1_code 7 = .ok (.anewarray 9, 3) := by decide +kernel
theorem kX_init_d10 : decode prog_1_method_1_code 10 = .ok (.putfield 11, 3) := by decide +kernel
theorem kX_init_d13 : decode prog_1_method_1_code 13 = .ok (.aload_n 0, 1) := by decide +kernel
theorem kX_init_d14 : decode prog_1_method_1_code 14 = .ok (.bipush 16, 2) := by decide +kernel
theorem kX_init_d16 : decode prog_1_method_1_code 16 = .ok (.newarray .int, 2) := by decide +kernel
theorem kX_init_d18 : decode prog_1_method_1_code 18 = .ok (.putfield 15, 3) := by decide +kernel
theorem kX_init_d21 : decode prog_1_method_1_code 21 = .ok (.aload_n 0, 1) := by decide +kernel
theorem kX_init_d22 : decode prog_1_method_1_code 22 = .ok (.new 9, 3) := by decide +kernel
theorem kX_init_d25 : decode prog_1_method_1_code 25 = .ok (.dup, 1) := by decide +kernel
theorem kX_init_d26 : decode prog_1_method_1_code 26 = .ok (.sipush 252, 3) := by decide +kernel
theorem kX_init_d29 : decode prog_1_method_1_code 29 = .ok (.invokespecial 19, 3) := by decide +kernel
theorem kX_init_d32 : decode prog_1_method_1_code 32 = .ok (.putfield 22, 3) := by decide +kernel
theorem kX_init_d35 : decode prog_1_method_1_code 35 = .ok (.aload_n 0, 1) := by decide +kernel
theorem kX_init_d36 : decode prog_1_method_1_code 36 = .ok (.new 26, 3) := by decide +kernel
theorem kX_init_d39 : decode prog_1_method_1_code 39 = .ok (.dup, 1) := by decide +kernel
theorem kX_init_d40 : decode prog_1_method_1_code 40 = .ok (.invokespecial 28, 3) := by decide +kernel
theorem kX_init_d43 : decode prog_1_method_1_code 43 = .ok (.putfield 29, 3) := by decide +kernel
theorem kX_init_d46 : decode prog_1_method_1_code 46 = .ok (.aload_n 0, 1) := by decide +kernel
theorem kX_init_d47 : decode prog_1_method_1_code 47 = .ok (.new 33, 3) := by decide +kernel
theorem kX_init_d50 : decode prog_1_method_1_code 50 = .ok (.dup, 1) := by decide +kernel
theorem kX_init_d51 : decode prog_1_method_1_code 51 = .ok (.aload_n 0, 1) := by decide +kernel
theorem kX_init_d52 : decode prog_1_method_1_code 52 = .ok (.getfield 29, 3) := by decide +kernel
theorem kX_init_d55 : decode prog_1_method_1_code 55 = .ok (.invokespecial 35, 3) := by decide +kernel
theorem kX_init_d58 : decode prog_1_method_1_code 58 = .ok (.putfield 38, 3) := by decide +kernel
theorem kX_init_d61 : decode prog_1_method_1_code 61 = .ok (.aload_n 0, 1) := by decide +kernel
theorem kX_init_d62 : decode prog_1_method_1_code 62 = .ok (.new 42, 3) := by decide +kernel
theorem kX_init_d65 : decode prog_1_method_1_code 65 = .ok (.dup, 1) := by decide +kernel
theorem kX_init_d66 : decode prog_1_method_1_code 66 = .ok (.aload_n 0, 1) := by decide +kernel
theorem kX_init_d67 : decode prog_1_method_1_code 67 = .ok (.getfield 29, 3) := by decide +kernel
theorem kX_init_d70 : decode prog_1_method_1_code 70 = .ok (.invokespecial 44, 3) := by decide +kernel
theorem kX_init_d73 : decode prog_1_method_1_code 73 = .ok (.putfield 45, 3) := by decide +kernel
theorem kX_init_d76 : decode prog_1_method_1_code 76 = .ok (.aload_n 0, 1) := by decide +kernel
theorem kX_init_d77 : decode prog_1_method_1_code 77 = .ok (.new 49, 3) := by decide +kernel
theorem kX_init_d80 : decode prog_1_method_1_code 80 = .ok (.dup, 1) := by decide +kernel
theorem kX_init_d81 : decode prog_1_method_1_code 81 = .ok (.aload_n 0, 1) := by decide +kernel
theorem kX_init_d82 : decode prog_1_method_1_code 82 = .ok (.getfield 29, 3) := by decide +kernel
theorem kX_init_d85 : decode prog_1_method_1_code 85 = .ok (.invokespecial 51, 3) := by decide +kernel
theorem kX_init_d88 : decode prog_1_method_1_code 88 = .ok (.putfield 52, 3) := by decide +kernel
theorem kX_init_d91 : decode prog_1_method_1_code 91 = .ok (.aload_n 0, 1) := by decide +kernel
theorem kX_init_d92 : decode prog_1_method_1_code 92 = .ok (.new 49, 3) := by decide +kernel
theorem kX_init_d95 : decode prog_1_method_1_code 95 = .ok (.dup, 1) := by decide +kernel
theorem kX_init_d96 : decode prog_1_method_1_code 96 = .ok (.aload_n 0, 1) := by decide +kernel
theorem kX_init_d97 : decode prog_1_method_1_code 97 = .ok (.getfield 29, 3) := by decide +kernel
theorem kX_init_d100 : decode prog_1_method_1_code 100 = .ok (.invokespecial 51, 3) := by decide +kernel
theorem kX_init_d103 : decode prog_1_method_1_code 103 = .ok (.putfield 56, 3) := by decide +kernel
theorem kX_init_d106 : decode prog_1_method_1_code 106 = .ok (.aload_n 0, 1) := by decide +kernel
theorem kX_init_d107 : decode prog_1_method_1_code 107 = .ok (.iconst (-1), 1) := by decide +kernel
theorem kX_init_d108 : decode prog_1_method_1_code 108 = .ok (.putfield 59, 3) := by decide +kernel
theorem kX_init_d111 : decode prog_1_method_1_code 111 = .ok (.iconst 0, 1) := by decide +kernel
theorem kX_init_d112 : decode prog_1_method_1_code 112 = .ok (.istore_n 1, 1) := by decide +kernel
theorem kX_init_d113 : decode prog_1_method_1_code 113 = .ok (.iload_n 1, 1) := by decide +kernel
theorem kX_init_d114 : decode prog_1_method_1_code 114 = .ok (.bipush 8, 2) := by decide +kernel
theorem kX_init_d116 : decode prog_1_method_1_code 116 = .ok (.if_icmp .ge 24, 3) := by decide +kernel
theorem kX_init_d119 : decode prog_1_method_1_code 119 = .ok (.aload_n 0, 1) := by decide +kernel
theorem kX_init_d120 : decode prog_1_method_1_code 120 = .ok (.getfield 11, 3) := by decide +kernel
theorem kX_init_d123 : decode prog_1_method_1_code 123 = .ok (.iload_n 1, 1) := by decide +kernel
theorem kX_init_d124 : decode prog_1_method_1_code 124 = .ok (.new 9, 3) := by decide +kernel
theorem kX_init_d127 : decode prog_1_method_1_code 127 = .ok (.dup, 1) := by decide +kernel
theorem kX_init_d128 : decode prog_1_method_1_code 128 = .ok (.bipush 125, 2) := by decide +kernel
theorem kX_init_d130 : decode prog_1_method_1_code 130 = .ok (.invokespecial 19, 3) := by decide +kernel
theorem kX_init_d133 : decode prog_1_method_1_code 133 = .ok (.aastore, 1) := by decide +kernel
theorem kX_init_d134 : decode prog_1_method_1_code 134 = .ok (.iinc 1 1, 3) := by decide +kernel
theorem kX_init_d137 : decode prog_1_method_1_code 137 = .ok (.goto (-24), 3) := by decide +kernel
theorem kX_init_d140 : decode prog_1_method_1_code 140 = .ok (.iconst 0, 1) := by decide +kernel
theorem kX_init_d141 : decode prog_1_method_1_code 141 = .ok (.istore_n 1, 1) := by decide +kernel
theorem kX_init_d142 : decode prog_1_method_1_code 142 = .ok (.iload_n 1, 1) := by decide +kernel
theorem kX_init_d143 : decode prog_1_method_1_code 143 = .ok (.bipush 16, 2) := by decide +kernel
theorem kX_init_d145 : decode prog_1_method_1_code 145 = .ok (.if_icmp .ge 16, 3) := by decide +kernel
theorem kX_init_d148 : decode prog_1_method_1_code 148 = .ok (.aload_n 0, 1) := by decide +kernel
theorem kX_init_d149 : decode prog_1_method_1_code 149 = .ok (.getfield 15, 3) := by decide +kernel
theorem kX_init_d152 : decode prog_1_method_1_code 152 = .ok (.iload_n 1, 1) := by decide +kernel
theorem kX_init_d153 : decode prog_1_method_1_code 153 = .ok (.iload_n 1, 1) := by decide +kernel
theorem kX_init_d154 : decode prog_1_method_1_code 154 = .ok (.iastore, 1) := by decide +kernel
theorem kX_init_d155 : decode prog_1_method_1_code 155 = .ok (.iinc 1 1, 3) := by decide +kernel
theorem kX_init_d158 : decode prog_1_method_1_code 158 = .ok (.goto (-16), 3) := by decide +kernel
theorem kX_init_d161 : decode prog_1_method_1_code 161 = .ok (.return_, 1) := by decide +kernel
theorem kX_make_d0 : decode prog_1_method_2_code 0 = .ok (.aload_n 0, 1) := by decide +kernel
theorem kX_make_d1 : decode prog_1_method_2_code 1 = .ok (.iload_n 1, 1) := by decide +kernel
theorem kX_make_d2 : decode prog_1_method_2_code 2 = .ok (.invokevirtual 63, 3) := by decide +kernel
theorem kX_make_d5 : decode prog_1_method_2_code 5 = .ok (.astore 4, 2) := by decide +kernel
theorem kX_make_d7 : decode prog_1_method_2_code 7 = .ok (.iload_n 2, 1) := by decide +kernel
theorem kX_make_d8 : decode prog_1_method_2_code 8 = .ok (.invokestatic 67, 3) := by decide +kernel
theorem kX_make_d11 : decode prog_1_method_2_code 11 = .ok (.ifCond .ne 10, 3) := by decide +kernel
theorem kX_make_d14 : decode prog_1_method_2_code 14 = .ok (.iload_n 3, 1) := by decide +kernel
theorem kX_make_d15 : decode prog_1_method_2_code 15 = .ok (.invokestatic 67, 3) := by decide +kernel
theorem kX_make_d18 : decode prog_1_method_2_code 18 = .ok (.ifCond .eq 13, 3) := by decide +kernel
theorem kX_make_d21 : decode prog_1_method_2_code 21 = .ok (.new 71, 3) := by decide +kernel
theorem kX_make_d24 : decode prog_1_method_2_code 24 = .ok (.dup, 1) := by decide +kernel
theorem kX_make_d25 : decode prog_1_method_2_code 25 = .ok (.ldc 73, 2) := by decide +kernel
theorem kX_make_d27 : decode prog_1_method_2_code 27 = .ok (.invokespecial 75, 3) := by decide +kernel
theorem kX_make_d30 : decode prog_1_method_2_code 30 = .ok (.athrow, 1) := by decide +kernel
theorem kX_make_d31 : decode prog_1_method_2_code 31 = .ok (.aload 4, 2) := by decide +kernel
theorem kX_make_d33 : decode prog_1_method_2_code 33 = .ok (.iload_n 2, 1) := by decide +kernel
theorem kX_make_d34 : decode prog_1_method_2_code 34 = .ok (.iload_n 3, 1) := by decide +kernel
theorem kX_make_d35 : decode prog_1_method_2_code 35 = .ok (.invokevirtual 78, 3) := by decide +kernel
theorem kX_make_d38 : decode prog_1_method_2_code 38 = .ok (.aload_n 0, 1) := by decide +kernel
theorem kX_make_d39 : decode prog_1_method_2_code 39 = .ok (.iconst (-1), 1) := by decide +kernel
theorem kX_make_d40 : decode prog_1_method_2_code 40 = .ok (.putfield 59, 3) := by decide +kernel
theorem kX_make_d43 : decode prog_1_method_2_code 43 = .ok (.return_, 1) := by decide +kernel
theorem kX_register_d0 : decode prog_1_method_22_code 0 = .ok (.iload_n 1, 1) := by decide +kernel
theorem kX_register_d1 : decode prog_1_method_22_code 1 = .ok (.ifCond .lt 9, 3) := by decide +kernel
theorem kX_register_d4 : decode prog_1_method_22_code 4 = .ok (.iload_n 1, 1) := by decide +kernel
theorem kX_register_d5 : decode prog_1_method_22_code 5 = .ok (.bipush 8, 2) := by decide +kernel
theorem kX_register_d7 : decode prog_1_method_22_code 7 = .ok (.if_icmp .lt 14, 3) := by decide +kernel
theorem kX_register_d10 : decode prog_1_method_22_code 10 = .ok (.new 268, 3) := by decide +kernel
theorem kX_register_d13 : decode prog_1_method_22_code 13 = .ok (.dup, 1) := by decide +kernel
theorem kX_register_d14 : decode prog_1_method_22_code 14 = .ok (.ldc_w 281, 3) := by decide +kernel
theorem kX_register_d17 : decode prog_1_method_22_code 17 = .ok (.invokespecial 272, 3) := by decide +kernel
theorem kX_register_d20 : decode prog_1_method_22_code 20 = .ok (.athrow, 1) := by decide +kernel
theorem kX_register_d21 : decode prog_1_method_22_code 21 = .ok (.aload_n 0, 1) := by decide +kernel
theorem kX_register_d22 : decode prog_1_method_22_code 22 = .ok (.getfield 11, 3) := by decide +kernel
theorem kX_register_d25 : decode prog_1_method_22_code 25 = .ok (.iload_n 1, 1) := by decide +kernel
theorem kX_register_d26 : decode prog_1_method_22_code 26 = .ok (.aaload, 1) := by decide +kernel
theorem kX_register_d27 : decode prog_1_method_22_code 27 = .ok (.areturn, 1) := by decide +kernel
theorem kX_isNoSide_d0 : decode prog_1_method_23_code 0 = .ok (.iload_n 0, 1) := by decide +kernel
theorem kX_isNoSide_d1 : decode prog_1_method_23_code 1 = .ok (.iconst 1, 1) := by decide +kernel
theorem kX_isNoSide_d2 : decode prog_1_method_23_code 2 = .ok (.if_icmp .lt 9, 3) := by decide +kernel
theorem kX_isNoSide_d5 : decode prog_1_method_23_code 5 = .ok (.iload_n 0, 1) := by decide +kernel
theorem kX_isNoSide_d6 : decode prog_1_method_23_code 6 = .ok (.bipush 16, 2) := by decide +kernel
theorem kX_isNoSide_d8 : decode prog_1_method_23_code 8 = .ok (.if_icmp .le 7, 3) := by decide +kernel
theorem kX_isNoSide_d11 : decode prog_1_method_23_code 11 = .ok (.iconst 1, 1) := by decide +kernel
theorem kX_isNoSide_d12 : decode prog_1_method_23_code 12 = .ok (.goto 4, 3) := by decide +kernel
theorem kX_isNoSide_d15 : decode prog_1_method_23_code 15 = .ok (.iconst 0, 1) := by decide +kernel
theorem kX_isNoSide_d16 : decode prog_1_method_23_code 16 = .ok (.ireturn, 1) := by decide +kernel
theorem kX_set_d0 : decode prog_1_method_3_code 0 = .ok (.aload_n 0, 1) := by decide +kernel
theorem kX_set_d1 : decode prog_1_method_3_code 1 = .ok (.iload_n 1, 1) := by decide +kernel
theorem kX_set_d2 : decode prog_1_method_3_code 2 = .ok (.invokevirtual 63, 3) := by decide +kernel
theorem kX_set_d5 : decode prog_1_method_3_code 5 = .ok (.astore 8, 2) := by decide +kernel
theorem kX_set_d7 : decode prog_1_method_3_code 7 = .ok (.aload 8, 2) := by decide +kernel
theorem kX_set_d9 : decode prog_1_method_3_code 9 = .ok (.iload_n 2, 1) := by decide +kernel
theorem kX_set_d10 : decode prog_1_method_3_code 10 = .ok (.iload_n 3, 1) := by decide +kernel
theorem kX_set_d11 : decode prog_1_method_3_code 11 = .ok (.invokestatic 82, 3) := by decide +kernel
theorem kX_set_d14 : decode prog_1_method_3_code 14 = .ok (.lload 6, 2) := by decide +kernel
theorem kX_set_d16 : decode prog_1_method_3_code 16 = .ok (.lconst 0, 1) := by decide +kernel
theorem kX_set_d17 : decode prog_1_method_3_code 17 = .ok (.lcmp, 1) := by decide +kernel
theorem kX_set_d18 : decode prog_1_method_3_code 18 = .ok (.ifCond .ne 13, 3) := by decide +kernel
theorem kX_set_d21 : decode prog_1_method_3_code 21 = .ok (.new 71, 3) := by decide +kernel
theorem kX_set_d24 : decode prog_1_method_3_code 24 = .ok (.dup, 1) := by decide +kernel
theorem kX_set_d25 : decode prog_1_method_3_code 25 = .ok (.ldc 86, 2) := by decide +kernel
theorem kX_set_d27 : decode prog_1_method_3_code 27 = .ok (.invokespecial 75, 3) := by decide +kernel
theorem kX_set_d30 : decode prog_1_method_3_code 30 = .ok (.athrow, 1) := by decide +kernel
theorem kX_set_d31 : decode prog_1_method_3_code 31 = .ok (.aload_n 0, 1) := by decide +kernel
theorem kX_set_d32 : decode prog_1_method_3_code 32 = .ok (.getfield 22, 3) := by decide +kernel
theorem kX_set_d35 : decode prog_1_method_3_code 35 = .ok (.aload 8, 2) := by decide +kernel
theorem kX_set_d37 : decode prog_1_method_3_code 37 = .ok (.invokevirtual 88, 3) := by decide +kernel
theorem kX_set_d40 : decode prog_1_method_3_code 40 = .ok (.aload_n 0, 1) := by decide +kernel
theorem kX_set_d41 : decode prog_1_method_3_code 41 = .ok (.getfield 22, 3) := by decide +kernel
theorem kX_set_d44 : decode prog_1_method_3_code 44 = .ok (.iload_n 2, 1) := by decide +kernel
theorem kX_set_d45 : decode prog_1_method_3_code 45 = .ok (.iload_n 3, 1) := by decide +kernel
theorem kX_set_d46 : decode prog_1_method_3_code 46 = .ok (.invokevirtual 92, 3) := by decide +kernel
theorem kX_set_d49 : decode prog_1_method_3_code 49 = .ok (.getfield 96, 3) := by decide +kernel
theorem kX_set_d52 : decode prog_1_method_3_code 52 = .ok (.ifCond .le 19, 3) := by decide +kernel
theorem kX_set_d55 : decode prog_1_method_3_code 55 = .ok (.aload_n 0, 1) := by decide +kernel
theorem kX_set_d56 : decode prog_1_method_3_code 56 = .ok (.getfield 22, 3) := by decide +kernel
theorem kX_set_d59 : decode prog_1_method_3_code 59 = .ok (.iload_n 2, 1) := by decide +kernel
theorem kX_set_d60 : decode prog_1_method_3_code 60 = .ok (.iload_n 3, 1) := by decide +kernel
theorem kX_set_d61 : decode prog_1_method_3_code 61 = .ok (.invokevirtual 92, 3) := by decide +kernel
theorem kX_set_d64 : decode prog_1_method_3_code 64 = .ok (.invokevirtual 101, 3) := by decide +kernel
theorem kX_set_d67 : decode prog_1_method_3_code 67 = .ok (.aload_n 0, 1) := by decide +kernel
theorem kX_set_d68 : decode prog_1_method_3_code 68 = .ok (.invokevirtual 104, 3) := by decide +kernel
theorem kX_set_d71 : decode prog_1_method_3_code 71 = .ok (.aload_n 0, 1) := by decide +kernel
theorem kX_set_d72 : decode prog_1_method_3_code 72 = .ok (.getfield 52, 3) := by decide +kernel
theorem kX_set_d75 : decode prog_1_method_3_code 75 = .ok (.getfield 107, 3) := by decide +kernel
theorem kX_set_d78 : decode prog_1_method_3_code 78 = .ok (.lload 4, 2) := by decide +kernel
theorem kX_set_d80 : decode prog_1_method_3_code 80 = .ok (.invokevirtual 111, 3) := by decide +kernel
theorem kX_set_d83 : decode prog_1_method_3_code 83 = .ok (.aload_n 0, 1) := by decide +kernel
theorem kX_set_d84 : decode prog_1_method_3_code 84 = .ok (.getfield 52, 3) := by decide +kernel
theorem kX_set_d87 : decode prog_1_method_3_code 87 = .ok (.getfield 115, 3) := by decide +kernel
theorem kX_set_d90 : decode prog_1_method_3_code 90 = .ok (.lload 6, 2) := by decide +kernel
theorem kX_set_d92 : decode prog_1_method_3_code 92 = .ok (.invokevirtual 111, 3) := by decide +kernel
theorem kX_set_d95 : decode prog_1_method_3_code 95 = .ok (.aload_n 0, 1) := by decide +kernel
theorem kX_set_d96 : decode prog_1_method_3_code 96 = .ok (.getfield 52, 3) := by decide +kernel
theorem kX_set_d99 : decode prog_1_method_3_code 99 = .ok (.invokevirtual 118, 3) := by decide +kernel
theorem kX_set_d102 : decode prog_1_method_3_code 102 = .ok (.aload_n 0, 1) := by decide +kernel
theorem kX_set_d103 : decode prog_1_method_3_code 103 = .ok (.getfield 29, 3) := by decide +kernel
theorem kX_set_d106 : decode prog_1_method_3_code 106 = .ok (.aload_n 0, 1) := by decide +kernel
theorem kX_set_d107 : decode prog_1_method_3_code 107 = .ok (.getfield 22, 3) := by decide +kernel
theorem kX_set_d110 : decode prog_1_method_3_code 110 = .ok (.getfield 121, 3) := by decide +kernel
theorem kX_set_d113 : decode prog_1_method_3_code 113 = .ok (.aload_n 0, 1) := by decide +kernel
theorem kX_set_d114 : decode prog_1_method_3_code 114 = .ok (.getfield 52, 3) := by decide +kernel
theorem kX_set_d117 : decode prog_1_method_3_code 117 = .ok (.getfield 115, 3) := by decide +kernel
theorem kX_set_d120 : decode prog_1_method_3_code 120 = .ok (.invokevirtual 124, 3) := by decide +kernel
theorem kX_set_d123 : decode prog_1_method_3_code 123 = .ok (.aload_n 0, 1) := by decide +kernel
theorem kX_set_d124 : decode prog_1_method_3_code 124 = .ok (.getfield 22, 3) := by decide +kernel
theorem kX_set_d127 : decode prog_1_method_3_code 127 = .ok (.aload_n 0, 1) := by decide +kernel
theorem kX_set_d128 : decode prog_1_method_3_code 128 = .ok (.getfield 29, 3) := by decide +kernel
theorem kX_set_d131 : decode prog_1_method_3_code 131 = .ok (.invokevirtual 128, 3) := by decide +kernel
theorem kX_set_d134 : decode prog_1_method_3_code 134 = .ok (.aload_n 0, 1) := by decide +kernel
theorem kX_set_d135 : decode prog_1_method_3_code 135 = .ok (.getfield 22, 3) := by decide +kernel
theorem kX_set_d138 : decode prog_1_method_3_code 138 = .ok (.iload_n 2, 1) := by decide +kernel
theorem kX_set_d139 : decode prog_1_method_3_code 139 = .ok (.iload_n 3, 1) := by decide +kernel
theorem kX_set_d140 : decode prog_1_method_3_code 140 = .ok (.invokevirtual 92, 3) := by decide +kernel
theorem kX_set_d143 : decode prog_1_method_3_code 143 = .ok (.aload_n 0, 1) := by decide +kernel
theorem kX_set_d144 : decode prog_1_method_3_code 144 = .ok (.getfield 52, 3) := by decide +kernel
theorem kX_set_d147 : decode prog_1_method_3_code 147 = .ok (.getfield 107, 3) := by decide +kernel
theorem kX_set_d150 : decode prog_1_method_3_code 150 = .ok (.aload_n 0, 1) := by decide +kernel
theorem kX_set_d151 : decode prog_1_method_3_code 151 = .ok (.getfield 29, 3) := by decide +kernel
theorem kX_set_d154 : decode prog_1_method_3_code 154 = .ok (.getfield 131, 3) := by decide +kernel
theorem kX_set_d157 : decode prog_1_method_3_code 157 = .ok (.invokevirtual 134, 3) := by decide +kernel
theorem kX_set_d160 : decode prog_1_method_3_code 160 = .ok (.aload_n 0, 1) := by decide +kernel
theorem kX_set_d161 : decode prog_1_method_3_code 161 = .ok (.iload_n 1, 1) := by decide +kernel
theorem kX_set_d162 : decode prog_1_method_3_code 162 = .ok (.invokevirtual 137, 3) := by decide +kernel
theorem kX_set_d165 : decode prog_1_method_3_code 165 = .ok (.return_, 1) := by decide +kernel
theorem kX_needCell_d0 : decode prog_1_method_24_code 0 = .ok (.iload_n 1, 1) := by decide +kernel
theorem kX_needCell_d1 : decode prog_1_method_24_code 1 = .ok (.ifCond .lt 23, 3) := by decide +kernel
theorem kX_needCell_d4 : decode prog_1_method_24_code 4 = .ok (.iload_n 1, 1) := by decide +kernel
theorem kX_needCell_d5 : decode prog_1_method_24_code 5 = .ok (.aload_n 0, 1) := by decide +kernel
theorem kX_needCell_d6 : decode prog_1_method_24_code 6 = .ok (.getfield 143, 3) := by decide +kernel
theorem kX_needCell_d9 : decode prog_1_method_24_code 9 = .ok (.if_icmp .ge 15, 3) := by decide +kernel
theorem kX_needCell_d12 : decode prog_1_method_24_code 12 = .ok (.iload_n 2, 1) := by decide +kernel
theorem kX_needCell_d13 : decode prog_1_method_24_code 13 = .ok (.ifCond .lt 11, 3) := by decide +kernel
theorem kX_needCell_d16 : decode prog_1_method_24_code 16 = .ok (.iload_n 2, 1) := by decide +kernel
theorem kX_needCell_d17 : decode prog_1_method_24_code 17 = .ok (.aload_n 0, 1) := by decide +kernel
theorem kX_needCell_d18 : decode prog_1_method_24_code 18 = .ok (.getfield 146, 3) := by decide +kernel
theorem kX_needCell_d21 : decode prog_1_method_24_code 21 = .ok (.if_icmp .lt 14, 3) := by decide +kernel
theorem kX_needCell_d24 : decode prog_1_method_24_code 24 = .ok (.new 268, 3) := by decide +kernel
theorem kX_needCell_d27 : decode prog_1_method_24_code 27 = .ok (.dup, 1) := by decide +kernel
theorem kX_needCell_d28 : decode prog_1_method_24_code 28 = .ok (.ldc_w 283, 3) := by decide +kernel
theorem kX_needCell_d31 : decode prog_1_method_24_code 31 = .ok (.invokespecial 272, 3) := by decide +kernel
theorem kX_needCell_d34 : decode prog_1_method_24_code 34 = .ok (.athrow, 1) := by decide +kernel
theorem kX_needCell_d35 : decode prog_1_method_24_code 35 = .ok (.return_, 1) := by decide +kernel
theorem kX_reduceDraft_d0 : decode prog_1_method_32_code 0 = .ok (.aload_n 0, 1) := by decide +kernel
theorem kX_reduceDraft_d1 : decode prog_1_method_32_code 1 = .ok (.getfield 22, 3) := by decide +kernel
theorem kX_reduceDraft_d4 : decode prog_1_method_32_code 4 = .ok (.getfield 121, 3) := by decide +kernel
theorem kX_reduceDraft_d7 : decode prog_1_method_32_code 7 = .ok (.getfield 227, 3) := by decide +kernel
theorem kX_reduceDraft_d10 : decode prog_1_method_32_code 10 = .ok (.ifCond .eq 10, 3) := by decide +kernel
theorem kX_reduceDraft_d13 : decode prog_1_method_32_code 13 = .ok (.aload_n 0, 1) := by decide +kernel
theorem kX_reduceDraft_d14 : decode prog_1_method_32_code 14 = .ok (.getfield 22, 3) := by decide +kernel
theorem kX_reduceDraft_d17 : decode prog_1_method_32_code 17 = .ok (.invokevirtual 312, 3) := by decide +kernel
theorem kX_reduceDraft_d20 : decode prog_1_method_32_code 20 = .ok (.aload_n 0, 1) := by decide +kernel
theorem kX_reduceDraft_d21 : decode prog_1_method_32_code 21 = .ok (.getfield 29, 3) := by decide +kernel
theorem kX_reduceDraft_d24 : decode prog_1_method_32_code 24 = .ok (.aload_n 0, 1) := by decide +kernel
theorem kX_reduceDraft_d25 : decode prog_1_method_32_code 25 = .ok (.getfield 22, 3) := by decide +kernel
theorem kX_reduceDraft_d28 : decode prog_1_method_32_code 28 = .ok (.iconst 0, 1) := by decide +kernel
theorem kX_reduceDraft_d29 : decode prog_1_method_32_code 29 = .ok (.aload_n 0, 1) := by decide +kernel
theorem kX_reduceDraft_d30 : decode prog_1_method_32_code 30 = .ok (.getfield 22, 3) := by decide +kernel
theorem kX_reduceDraft_d33 : decode prog_1_method_32_code 33 = .ok (.getfield 143, 3) := by decide +kernel
theorem kX_reduceDraft_d36 : decode prog_1_method_32_code 36 = .ok (.invokevirtual 313, 3) := by decide +kernel
theorem kX_reduceDraft_d39 : decode prog_1_method_32_code 39 = .ok (.aload_n 0, 1) := by decide +kernel
theorem kX_reduceDraft_d40 : decode prog_1_method_32_code 40 = .ok (.getfield 29, 3) := by decide +kernel
theorem kX_reduceDraft_d43 : decode prog_1_method_32_code 43 = .ok (.getfield 316, 3) := by decide +kernel
theorem kX_reduceDraft_d46 : decode prog_1_method_32_code 46 = .ok (.invokevirtual 285, 3) := by decide +kernel
theorem kX_reduceDraft_d49 : decode prog_1_method_32_code 49 = .ok (.ifCond .ne 14, 3) := by decide +kernel
theorem kX_reduceDraft_d52 : decode prog_1_method_32_code 52 = .ok (.aload_n 0, 1) := by decide +kernel
theorem kX_reduceDraft_d53 : decode prog_1_method_32_code 53 = .ok (.getfield 22, 3) := by decide +kernel
theorem kX_reduceDraft_d56 : decode prog_1_method_32_code 56 = .ok (.aload_n 0, 1) := by decide +kernel
theorem kX_reduceDraft_d57 : decode prog_1_method_32_code 57 = .ok (.getfield 29, 3) := by decide +kernel
theorem kX_reduceDraft_d60 : decode prog_1_method_32_code 60 = .ok (.invokevirtual 319, 3) := by decide +kernel
theorem kX_reduceDraft_d63 : decode prog_1_method_32_code 63 = .ok (.return_, 1) := by decide +kernel
theorem kX_keepDraft_d0 : decode prog_1_method_33_code 0 = .ok (.aload_n 0, 1) := by decide +kernel
theorem kX_keepDraft_d1 : decode prog_1_method_33_code 1 = .ok (.getfield 22, 3) := by decide +kernel
theorem kX_keepDraft_d4 : decode prog_1_method_33_code 4 = .ok (.invokevirtual 321, 3) := by decide +kernel
theorem kX_keepDraft_d7 : decode prog_1_method_33_code 7 = .ok (.ifCond .eq 14, 3) := by decide +kernel
theorem kX_keepDraft_d10 : decode prog_1_method_33_code 10 = .ok (.new 176, 3) := by decide +kernel
theorem kX_keepDraft_d13 : decode prog_1_method_33_code 13 = .ok (.dup, 1) := by decide +kernel
theorem kX_keepDraft_d14 : decode prog_1_method_33_code 14 = .ok (.ldc_w 324, 3) := by decide +kernel
theorem kX_keepDraft_d17 : decode prog_1_method_33_code 17 = .ok (.invokespecial 180, 3) := by decide +kernel
theorem kX_keepDraft_d20 : decode prog_1_method_33_code 20 = .ok (.athrow, 1) := by decide +kernel
theorem kX_keepDraft_d21 : decode prog_1_method_33_code 21 = .ok (.aload_n 0, 1) := by decide +kernel
theorem kX_keepDraft_d22 : decode prog_1_method_33_code 22 = .ok (.getfield 11, 3) := by decide +kernel
theorem kX_keepDraft_d25 : decode prog_1_method_33_code 25 = .ok (.iload_n 1, 1) := by decide +kernel
theorem kX_keepDraft_d26 : decode prog_1_method_33_code 26 = .ok (.aaload, 1) := by decide +kernel
theorem kX_keepDraft_d27 : decode prog_1_method_33_code 27 = .ok (.aload_n 0, 1) := by decide +kernel
theorem kX_keepDraft_d28 : decode prog_1_method_33_code 28 = .ok (.getfield 22, 3) := by decide +kernel
theorem kX_keepDraft_d31 : decode prog_1_method_33_code 31 = .ok (.invokevirtual 88, 3) := by decide +kernel
theorem kX_keepDraft_d34 : decode prog_1_method_33_code 34 = .ok (.aload_n 0, 1) := by decide +kernel
theorem kX_keepDraft_d35 : decode prog_1_method_33_code 35 = .ok (.iconst (-1), 1) := by decide +kernel
theorem kX_keepDraft_d36 : decode prog_1_method_33_code 36 = .ok (.putfield 59, 3) := by decide +kernel
theorem kX_keepDraft_d39 : decode prog_1_method_33_code 39 = .ok (.return_, 1) := by decide +kernel
theorem kX_unit_d0 : decode prog_1_method_4_code 0 = .ok (.aload_n 0, 1) := by decide +kernel
theorem kX_unit_d1 : decode prog_1_method_4_code 1 = .ok (.iload_n 1, 1) := by decide +kernel
theorem kX_unit_d2 : decode prog_1_method_4_code 2 = .ok (.invokevirtual 63, 3) := by decide +kernel
theorem kX_unit_d5 : decode prog_1_method_4_code 5 = .ok (.astore_n 3, 1) := by decide +kernel
theorem kX_unit_d6 : decode prog_1_method_4_code 6 = .ok (.iload_n 2, 1) := by decide +kernel
theorem kX_unit_d7 : decode prog_1_method_4_code 7 = .ok (.invokestatic 67, 3) := by decide +kernel
theorem kX_unit_d10 : decode prog_1_method_4_code 10 = .ok (.ifCond .eq 13, 3) := by decide +kernel
theorem kX_unit_d13 : decode prog_1_method_4_code 13 = .ok (.new 71, 3) := by decide +kernel
theorem kX_unit_d16 : decode prog_1_method_4_code 16 = .ok (.dup, 1) := by decide +kernel
theorem kX_unit_d17 : decode prog_1_method_4_code 17 = .ok (.ldc 73, 2) := by decide +kernel
theorem kX_unit_d19 : decode prog_1_method_4_code 19 = .ok (.invokespecial 75, 3) := by decide +kernel
theorem kX_unit_d22 : decode prog_1_method_4_code 22 = .ok (.athrow, 1) := by decide +kernel
theorem kX_unit_d23 : decode prog_1_method_4_code 23 = .ok (.aload_n 3, 1) := by decide +kernel
theorem kX_unit_d24 : decode prog_1_method_4_code 24 = .ok (.iload_n 2, 1) := by decide +kernel
theorem kX_unit_d25 : decode prog_1_method_4_code 25 = .ok (.invokevirtual 140, 3) := by decide +kernel
theorem kX_unit_d28 : decode prog_1_method_4_code 28 = .ok (.aload_n 0, 1) := by decide +kernel
theorem kX_unit_d29 : decode prog_1_method_4_code 29 = .ok (.iconst (-1), 1) := by decide +kernel
theorem kX_unit_d30 : decode prog_1_method_4_code 30 = .ok (.putfield 59, 3) := by decide +kernel
theorem kX_unit_d33 : decode prog_1_method_4_code 33 = .ok (.return_, 1) := by decide +kernel
theorem kX_add_d0 : decode prog_1_method_5_code 0 = .ok (.aload_n 0, 1) := by decide +kernel
theorem kX_add_d1 : decode prog_1_method_5_code 1 = .ok (.iload_n 1, 1) := by decide +kernel
theorem kX_add_d2 : decode prog_1_method_5_code 2 = .ok (.invokevirtual 63, 3) := by decide +kernel
theorem kX_add_d5 : decode prog_1_method_5_code 5 = .ok (.pop, 1) := by decide +kernel
theorem kX_add_d6 : decode prog_1_method_5_code 6 = .ok (.aload_n 0, 1) := by decide +kernel
theorem kX_add_d7 : decode prog_1_method_5_code 7 = .ok (.iload_n 2, 1) := by decide +kernel
theorem kX_add_d8 : decode prog_1_method_5_code 8 = .ok (.invokevirtual 63, 3) := by decide +kernel
theorem kX_add_d11 : decode prog_1_method_5_code 11 = .ok (.astore 5, 2) := by decide +kernel
theorem kX_add_d13 : decode prog_1_method_5_code 13 = .ok (.aload_n 0, 1) := by decide +kernel
theorem kX_add_d14 : decode prog_1_method_5_code 14 = .ok (.iload_n 3, 1) := by decide +kernel
theorem kX_add_d15 : decode prog_1_method_5_code 15 = .ok (.invokevirtual 63, 3) := by decide +kernel
theorem kX_add_d18 : decode prog_1_method_5_code 18 = .ok (.astore 6, 2) := by decide +kernel
theorem kX_add_d20 : decode prog_1_method_5_code 20 = .ok (.aload 5, 2) := by decide +kernel
theorem kX_add_d22 : decode prog_1_method_5_code 22 = .ok (.getfield 143, 3) := by decide +kernel
theorem kX_add_d25 : decode prog_1_method_5_code 25 = .ok (.aload 6, 2) := by decide +kernel
theorem kX_add_d27 : decode prog_1_method_5_code 27 = .ok (.getfield 143, 3) := by decide +kernel
theorem kX_add_d30 : decode prog_1_method_5_code 30 = .ok (.if_icmp .ne 16, 3) := by decide +kernel
theorem kX_add_d33 : decode prog_1_method_5_code 33 = .ok (.aload 5, 2) := by decide +kernel
theorem kX_add_d35 : decode prog_1_method_5_code 35 = .ok (.getfield 146, 3) := by decide +kernel
theorem kX_add_d38 : decode prog_1_method_5_code 38 = .ok (.aload 6, 2) := by decide +kernel
theorem kX_add_d40 : decode prog_1_method_5_code 40 = .ok (.getfield 146, 3) := by decide +kernel
theorem kX_add_d43 : decode prog_1_method_5_code 43 = .ok (.if_icmp .eq 13, 3) := by decide +kernel
theorem kX_add_d46 : decode prog_1_method_5_code 46 = .ok (.new 71, 3) := by decide +kernel
theorem kX_add_d49 : decode prog_1_method_5_code 49 = .ok (.dup, 1) := by decide +kernel
theorem kX_add_d50 : decode prog_1_method_5_code 50 = .ok (.ldc 149, 2) := by decide +kernel
theorem kX_add_d52 : decode prog_1_method_5_code 52 = .ok (.invokespecial 75, 3) := by decide +kernel
theorem kX_add_d55 : decode prog_1_method_5_code 55 = .ok (.athrow, 1) := by decide +kernel
theorem kX_add_d56 : decode prog_1_method_5_code 56 = .ok (.aload_n 0, 1) := by decide +kernel
theorem kX_add_d57 : decode prog_1_method_5_code 57 = .ok (.aload 5, 2) := by decide +kernel
theorem kX_add_d59 : decode prog_1_method_5_code 59 = .ok (.aload 6, 2) := by decide +kernel
theorem kX_add_d61 : decode prog_1_method_5_code 61 = .ok (.aload 5, 2) := by decide +kernel
theorem kX_add_d63 : decode prog_1_method_5_code 63 = .ok (.getfield 146, 3) := by decide +kernel
theorem kX_add_d66 : decode prog_1_method_5_code 66 = .ok (.invokevirtual 151, 3) := by decide +kernel
theorem kX_add_d69 : decode prog_1_method_5_code 69 = .ok (.iconst 0, 1) := by decide +kernel
theorem kX_add_d70 : decode prog_1_method_5_code 70 = .ok (.istore 7, 2) := by decide +kernel
theorem kX_add_d72 : decode prog_1_method_5_code 72 = .ok (.iload 7, 2) := by decide +kernel
theorem kX_add_d74 : decode prog_1_method_5_code 74 = .ok (.aload 5, 2) := by decide +kernel
theorem kX_add_d76 : decode prog_1_method_5_code 76 = .ok (.getfield 143, 3) := by decide +kernel
theorem kX_add_d79 : decode prog_1_method_5_code 79 = .ok (.if_icmp .ge 90, 3) := by decide +kernel
theorem kX_add_d82 : decode prog_1_method_5_code 82 = .ok (.iconst 0, 1) := by decide +kernel
theorem kX_add_d83 : decode prog_1_method_5_code 83 = .ok (.istore 8, 2) := by decide +kernel
theorem kX_add_d85 : decode prog_1_method_5_code 85 = .ok (.iload 8, 2) := by decide +kernel
theorem kX_add_d87 : decode prog_1_method_5_code 87 = .ok (.aload 5, 2) := by decide +kernel
theorem kX_add_d89 : decode prog_1_method_5_code 89 = .ok (.getfield 146, 3) := by decide +kernel
theorem kX_add_d92 : decode prog_1_method_5_code 92 = .ok (.if_icmp .ge 71, 3) := by decide +kernel
theorem kX_add_d95 : decode prog_1_method_5_code 95 = .ok (.aload_n 0, 1) := by decide +kernel
theorem kX_add_d96 : decode prog_1_method_5_code 96 = .ok (.getfield 29, 3) := by decide +kernel
theorem kX_add_d99 : decode prog_1_method_5_code 99 = .ok (.aload_n 0, 1) := by decide +kernel
theorem kX_add_d100 : decode prog_1_method_5_code 100 = .ok (.getfield 29, 3) := by decide +kernel
theorem kX_add_d103 : decode prog_1_method_5_code 103 = .ok (.getfield 155, 3) := by decide +kernel
theorem kX_add_d106 : decode prog_1_method_5_code 106 = .ok (.aload 5, 2) := by decide +kernel
theorem kX_add_d108 : decode prog_1_method_5_code 108 = .ok (.iload 7, 2) := by decide +kernel
theorem kX_add_d110 : decode prog_1_method_5_code 110 = .ok (.iload 8, 2) := by decide +kernel
theorem kX_add_d112 : decode prog_1_method_5_code 112 = .ok (.invokevirtual 92, 3) := by decide +kernel
theorem kX_add_d115 : decode prog_1_method_5_code 115 = .ok (.aload_n 0, 1) := by decide +kernel
theorem kX_add_d116 : decode prog_1_method_5_code 116 = .ok (.getfield 29, 3) := by decide +kernel
theorem kX_add_d119 : decode prog_1_method_5_code 119 = .ok (.getfield 131, 3) := by decide +kernel
theorem kX_add_d122 : decode prog_1_method_5_code 122 = .ok (.aload 6, 2) := by decide +kernel
theorem kX_add_d124 : decode prog_1_method_5_code 124 = .ok (.iload 7, 2) := by decide +kernel
theorem kX_add_d126 : decode prog_1_method_5_code 126 = .ok (.iload 8, 2) := by decide +kernel
theorem kX_add_d128 : decode prog_1_method_5_code 128 = .ok (.invokevirtual 92, 3) := by decide +kernel
theorem kX_add_d131 : decode prog_1_method_5_code 131 = .ok (.iload 4, 2) := by decide +kernel
theorem kX_add_d133 : decode prog_1_method_5_code 133 = .ok (.invokevirtual 158, 3) := by decide +kernel
theorem kX_add_d136 : decode prog_1_method_5_code 136 = .ok (.aload_n 0, 1) := by decide +kernel
theorem kX_add_d137 : decode prog_1_method_5_code 137 = .ok (.getfield 22, 3) := by decide +kernel
theorem kX_add_d140 : decode prog_1_method_5_code 140 = .ok (.iload 7, 2) := by decide +kernel
theorem kX_add_d142 : decode prog_1_method_5_code 142 = .ok (.iload 8, 2) := by decide +kernel
theorem kX_add_d144 : decode prog_1_method_5_code 144 = .ok (.invokevirtual 92, 3) := by decide +kernel
theorem kX_add_d147 : decode prog_1_method_5_code 147 = .ok (.aload_n 0, 1) := by decide +kernel
theorem kX_add_d148 : decode prog_1_method_5_code 148 = .ok (.getfield 29, 3) := by decide +kernel
theorem kX_add_d151 : decode prog_1_method_5_code 151 = .ok (.getfield 162, 3) := by decide +kernel
theorem kX_add_d154 : decode prog_1_method_5_code 154 = .ok (.invokevirtual 165, 3) := by decide +kernel
theorem kX_add_d157 : decode prog_1_method_5_code 157 = .ok (.iinc 8 1, 3) := by decide +kernel
theorem kX_add_d160 : decode prog_1_method_5_code 160 = .ok (.goto (-75), 3) := by decide +kernel
theorem kX_add_d163 : decode prog_1_method_5_code 163 = .ok (.iinc 7 1, 3) := by decide +kernel
theorem kX_add_d166 : decode prog_1_method_5_code 166 = .ok (.goto (-94), 3) := by decide +kernel
theorem kX_add_d169 : decode prog_1_method_5_code 169 = .ok (.aload_n 0, 1) := by decide +kernel
theorem kX_add_d170 : decode prog_1_method_5_code 170 = .ok (.invokevirtual 104, 3) := by decide +kernel
theorem kX_add_d173 : decode prog_1_method_5_code 173 = .ok (.aload_n 0, 1) := by decide +kernel
theorem kX_add_d174 : decode prog_1_method_5_code 174 = .ok (.iload_n 1, 1) := by decide +kernel
theorem kX_add_d175 : decode prog_1_method_5_code 175 = .ok (.invokevirtual 137, 3) := by decide +kernel
theorem kX_add_d178 : decode prog_1_method_5_code 178 = .ok (.return_, 1) := by decide +kernel
theorem kX_draftCommon_d0 : decode prog_1_method_27_code 0 = .ok (.aload_n 0, 1) := by decide +kernel
theorem kX_draftCommon_d1 : decode prog_1_method_27_code 1 = .ok (.getfield 22, 3) := by decide +kernel
theorem kX_draftCommon_d4 : decode prog_1_method_27_code 4 = .ok (.aload_n 1, 1) := by decide +kernel
theorem kX_draftCommon_d5 : decode prog_1_method_27_code 5 = .ok (.getfield 143, 3) := by decide +kernel
theorem kX_draftCommon_d8 : decode prog_1_method_27_code 8 = .ok (.iload_n 3, 1) := by decide +kernel
theorem kX_draftCommon_d9 : decode prog_1_method_27_code 9 = .ok (.invokevirtual 78, 3) := by decide +kernel
theorem kX_draftCommon_d12 : decode prog_1_method_27_code 12 = .ok (.aload_n 0, 1) := by decide +kernel
theorem kX_draftCommon_d13 : decode prog_1_method_27_code 13 = .ok (.getfield 29, 3) := by decide +kernel
theorem kX_draftCommon_d16 : decode prog_1_method_27_code 16 = .ok (.aload_n 1, 1) := by decide +kernel
theorem kX_draftCommon_d17 : decode prog_1_method_27_code 17 = .ok (.getfield 121, 3) := by decide +kernel
theorem kX_draftCommon_d20 : decode prog_1_method_27_code 20 = .ok (.aload_n 2, 1) := by decide +kernel
theorem kX_draftCommon_d21 : decode prog_1_method_27_code 21 = .ok (.getfield 121, 3) := by decide +kernel
theorem kX_draftCommon_d24 : decode prog_1_method_27_code 24 = .ok (.invokevirtual 124, 3) := by decide +kernel
theorem kX_draftCommon_d27 : decode prog_1_method_27_code 27 = .ok (.aload_n 0, 1) := by decide +kernel
theorem kX_draftCommon_d28 : decode prog_1_method_27_code 28 = .ok (.getfield 22, 3) := by decide +kernel
theorem kX_draftCommon_d31 : decode prog_1_method_27_code 31 = .ok (.getfield 121, 3) := by decide +kernel
theorem kX_draftCommon_d34 : decode prog_1_method_27_code 34 = .ok (.aload_n 1, 1) := by decide +kernel
theorem kX_draftCommon_d35 : decode prog_1_method_27_code 35 = .ok (.getfield 121, 3) := by decide +kernel
theorem kX_draftCommon_d38 : decode prog_1_method_27_code 38 = .ok (.aload_n 0, 1) := by decide +kernel
theorem kX_draftCommon_d39 : decode prog_1_method_27_code 39 = .ok (.getfield 29, 3) := by decide +kernel
theorem kX_draftCommon_d42 : decode prog_1_method_27_code 42 = .ok (.getfield 155, 3) := by decide +kernel
theorem kX_draftCommon_d45 : decode prog_1_method_27_code 45 = .ok (.invokevirtual 134, 3) := by decide +kernel
theorem kX_draftCommon_d48 : decode prog_1_method_27_code 48 = .ok (.return_, 1) := by decide +kernel
theorem kX_multiply_d0 : decode prog_1_method_6_code 0 = .ok (.aload_n 0, 1) := by decide +kernel
theorem kX_multiply_d1 : decode prog_1_method_6_code 1 = .ok (.iload_n 1, 1) := by decide +kernel
theorem kX_multiply_d2 : decode prog_1_method_6_code 2 = .ok (.invokevirtual 63, 3) := by decide +kernel
theorem kX_multiply_d5 : decode prog_1_method_6_code 5 = .ok (.pop, 1) := by decide +kernel
theorem kX_multiply_d6 : decode prog_1_method_6_code 6 = .ok (.aload_n 0, 1) := by decide +kernel
theorem kX_multiply_d7 : decode prog_1_method_6_code 7 = .ok (.iload_n 2, 1) := by decide +kernel
theorem kX_multiply_d8 : decode prog_1_method_6_code 8 = .ok (.invokevirtual 63, 3) := by decide +kernel
theorem kX_multiply_d11 : decode prog_1_method_6_code 11 = .ok (.astore 4, 2) := by decide +kernel
theorem kX_multiply_d13 : decode prog_1_method_6_code 13 = .ok (.aload_n 0, 1) := by decide +kernel
theorem kX_multiply_d14 : decode prog_1_method_6_code 14 = .ok (.iload_n 3, 1) := by decide +kernel
theorem kX_multiply_d15 : decode prog_1_method_6_code 15 = .ok (.invokevirtual 63, 3) := by decide +kernel
theorem kX_multiply_d18 : decode prog_1_method_6_code 18 = .ok (.astore 5, 2) := by decide +kernel
theorem kX_multiply_d20 : decode prog_1_method_6_code 20 = .ok (.aload 4, 2) := by decide +kernel
theorem kX_multiply_d22 : decode prog_1_method_6_code 22 = .ok (.getfield 146, 3) := by decide +kernel
theorem kX_multiply_d25 : decode prog_1_method_6_code 25 = .ok (.aload 5, 2) := by decide +kernel
theorem kX_multiply_d27 : decode prog_1_method_6_code 27 = .ok (.getfield 143, 3) := by decide +kernel
theorem kX_multiply_d30 : decode prog_1_method_6_code 30 = .ok (.if_icmp .eq 13, 3) := by decide +kernel
theorem kX_multiply_d33 : decode prog_1_method_6_code 33 = .ok (.new 71, 3) := by decide +kernel
theorem kX_multiply_d36 : decode prog_1_method_6_code 36 = .ok (.dup, 1) := by decide +kernel
theorem kX_multiply_d37 : decode prog_1_method_6_code 37 = .ok (.ldc 168, 2) := by decide +kernel
theorem kX_multiply_d39 : decode prog_1_method_6_code 39 = .ok (.invokespecial 75, 3) := by decide +kernel
theorem kX_multiply_d42 : decode prog_1_method_6_code 42 = .ok (.athrow, 1) := by decide +kernel
theorem kX_multiply_d43 : decode prog_1_method_6_code 43 = .ok (.aload_n 0, 1) := by decide +kernel
theorem kX_multiply_d44 : decode prog_1_method_6_code 44 = .ok (.getfield 22, 3) := by decide +kernel
theorem kX_multiply_d47 : decode prog_1_method_6_code 47 = .ok (.aload 4, 2) := by decide +kernel
theorem kX_multiply_d49 : decode prog_1_method_6_code 49 = .ok (.getfield 143, 3) := by decide +kernel
theorem kX_multiply_d52 : decode prog_1_method_6_code 52 = .ok (.aload 5, 2) := by decide +kernel
theorem kX_multiply_d54 : decode prog_1_method_6_code 54 = .ok (.getfield 146, 3) := by decide +kernel
theorem kX_multiply_d57 : decode prog_1_method_6_code 57 = .ok (.invokevirtual 78, 3) := by decide +kernel
theorem kX_multiply_d60 : decode prog_1_method_6_code 60 = .ok (.aload_n 0, 1) := by decide +kernel
theorem kX_multiply_d61 : decode prog_1_method_6_code 61 = .ok (.getfield 22, 3) := by decide +kernel
theorem kX_multiply_d64 : decode prog_1_method_6_code 64 = .ok (.getfield 121, 3) := by decide +kernel
theorem kX_multiply_d67 : decode prog_1_method_6_code 67 = .ok (.aload 4, 2) := by decide +kernel
theorem kX_multiply_d69 : decode prog_1_method_6_code 69 = .ok (.getfield 121, 3) := by decide +kernel
theorem kX_multiply_d72 : decode prog_1_method_6_code 72 = .ok (.aload 5, 2) := by decide +kernel
theorem kX_multiply_d74 : decode prog_1_method_6_code 74 = .ok (.getfield 121, 3) := by decide +kernel
theorem kX_multiply_d77 : decode prog_1_method_6_code 77 = .ok (.invokevirtual 134, 3) := by decide +kernel
theorem kX_multiply_d80 : decode prog_1_method_6_code 80 = .ok (.iconst 0, 1) := by decide +kernel
theorem kX_multiply_d81 : decode prog_1_method_6_code 81 = .ok (.istore 6, 2) := by decide +kernel
theorem kX_multiply_d83 : decode prog_1_method_6_code 83 = .ok (.iload 6, 2) := by decide +kernel
theorem kX_multiply_d85 : decode prog_1_method_6_code 85 = .ok (.aload 4, 2) := by decide +kernel
theorem kX_multiply_d87 : decode prog_1_method_6_code 87 = .ok (.getfield 143, 3) := by decide +kernel
theorem kX_multiply_d90 : decode prog_1_method_6_code 90 = .ok (.if_icmp .ge 40, 3) := by decide +kernel
theorem kX_multiply_d93 : decode prog_1_method_6_code 93 = .ok (.iconst 0, 1) := by decide +kernel
theorem kX_multiply_d94 : decode prog_1_method_6_code 94 = .ok (.istore 7, 2) := by decide +kernel
theorem kX_multiply_d96 : decode prog_1_method_6_code 96 = .ok (.iload 7, 2) := by decide +kernel
theorem kX_multiply_d98 : decode prog_1_method_6_code 98 = .ok (.aload 5, 2) := by decide +kernel
theorem kX_multiply_d100 : decode prog_1_method_6_code 100 = .ok (.getfield 146, 3) := by decide +kernel
theorem kX_multiply_d103 : decode prog_1_method_6_code 103 = .ok (.if_icmp .ge 21, 3) := by decide +kernel
theorem kX_multiply_d106 : decode prog_1_method_6_code 106 = .ok (.aload_n 0, 1) := by decide +kernel
theorem kX_multiply_d107 : decode prog_1_method_6_code 107 = .ok (.aload 4, 2) := by decide +kernel
theorem kX_multiply_d109 : decode prog_1_method_6_code 109 = .ok (.aload 5, 2) := by decide +kernel
theorem kX_multiply_d111 : decode prog_1_method_6_code 111 = .ok (.iload 6, 2) := by decide +kernel
theorem kX_multiply_d113 : decode prog_1_method_6_code 113 = .ok (.iload 7, 2) := by decide +kernel
theorem kX_multiply_d115 : decode prog_1_method_6_code 115 = .ok (.invokevirtual 170, 3) := by decide +kernel
theorem kX_multiply_d118 : decode prog_1_method_6_code 118 = .ok (.iinc 7 1, 3) := by decide +kernel
theorem kX_multiply_d121 : decode prog_1_method_6_code 121 = .ok (.goto (-25), 3) := by decide +kernel
theorem kX_multiply_d124 : decode prog_1_method_6_code 124 = .ok (.iinc 6 1, 3) := by decide +kernel
theorem kX_multiply_d127 : decode prog_1_method_6_code 127 = .ok (.goto (-44), 3) := by decide +kernel
theorem kX_multiply_d130 : decode prog_1_method_6_code 130 = .ok (.aload_n 0, 1) := by decide +kernel
theorem kX_multiply_d131 : decode prog_1_method_6_code 131 = .ok (.invokevirtual 104, 3) := by decide +kernel
theorem kX_multiply_d134 : decode prog_1_method_6_code 134 = .ok (.aload_n 0, 1) := by decide +kernel
theorem kX_multiply_d135 : decode prog_1_method_6_code 135 = .ok (.iload_n 1, 1) := by decide +kernel
theorem kX_multiply_d136 : decode prog_1_method_6_code 136 = .ok (.invokevirtual 137, 3) := by decide +kernel
theorem kX_multiply_d139 : decode prog_1_method_6_code 139 = .ok (.return_, 1) := by decide +kernel
theorem kX_draftProduct_d0 : decode prog_1_method_28_code 0 = .ok (.aload_n 0, 1) := by decide +kernel
theorem kX_draftProduct_d1 : decode prog_1_method_28_code 1 = .ok (.getfield 22, 3) := by decide +kernel
theorem kX_draftProduct_d4 : decode prog_1_method_28_code 4 = .ok (.iload_n 3, 1) := by decide +kernel
theorem kX_draftProduct_d5 : decode prog_1_method_28_code 5 = .ok (.iload 4, 2) := by decide +kernel
theorem kX_draftProduct_d7 : decode prog_1_method_28_code 7 = .ok (.invokevirtual 92, 3) := by decide +kernel
theorem kX_draftProduct_d10 : decode prog_1_method_28_code 10 = .ok (.astore 5, 2) := by decide +kernel
theorem kX_draftProduct_d12 : decode prog_1_method_28_code 12 = .ok (.iconst 0, 1) := by decide +kernel
theorem kX_draftProduct_d13 : decode prog_1_method_28_code 13 = .ok (.istore 6, 2) := by decide +kernel
theorem kX_draftProduct_d15 : decode prog_1_method_28_code 15 = .ok (.iload 6, 2) := by decide +kernel
theorem kX_draftProduct_d17 : decode prog_1_method_28_code 17 = .ok (.aload_n 1, 1) := by decide +kernel
theorem kX_draftProduct_d18 : decode prog_1_method_28_code 18 = .ok (.getfield 146, 3) := by decide +kernel
theorem kX_draftProduct_d21 : decode prog_1_method_28_code 21 = .ok (.if_icmp .ge 49, 3) := by decide +kernel
theorem kX_draftProduct_d24 : decode prog_1_method_28_code 24 = .ok (.aload_n 0, 1) := by decide +kernel
theorem kX_draftProduct_d25 : decode prog_1_method_28_code 25 = .ok (.getfield 29, 3) := by decide +kernel
theorem kX_draftProduct_d28 : decode prog_1_method_28_code 28 = .ok (.getfield 291, 3) := by decide +kernel
theorem kX_draftProduct_d31 : decode prog_1_method_28_code 31 = .ok (.aload_n 1, 1) := by decide +kernel
theorem kX_draftProduct_d32 : decode prog_1_method_28_code 32 = .ok (.iload_n 3, 1) := by decide +kernel
theorem kX_draftProduct_d33 : decode prog_1_method_28_code 33 = .ok (.iload 6, 2) := by decide +kernel
theorem kX_draftProduct_d35 : decode prog_1_method_28_code 35 = .ok (.invokevirtual 92, 3) := by decide +kernel
theorem kX_draftProduct_d38 : decode prog_1_method_28_code 38 = .ok (.aload_n 2, 1) := by decide +kernel
theorem kX_draftProduct_d39 : decode prog_1_method_28_code 39 = .ok (.iload 6, 2) := by decide +kernel
theorem kX_draftProduct_d41 : decode prog_1_method_28_code 41 = .ok (.iload 4, 2) := by decide +kernel
theorem kX_draftProduct_d43 : decode prog_1_method_28_code 43 = .ok (.invokevirtual 92, 3) := by decide +kernel
theorem kX_draftProduct_d46 : decode prog_1_method_28_code 46 = .ok (.invokevirtual 134, 3) := by decide +kernel
theorem kX_draftProduct_d49 : decode prog_1_method_28_code 49 = .ok (.aload 5, 2) := by decide +kernel
theorem kX_draftProduct_d51 : decode prog_1_method_28_code 51 = .ok (.aload 5, 2) := by decide +kernel
theorem kX_draftProduct_d53 : decode prog_1_method_28_code 53 = .ok (.aload_n 0, 1) := by decide +kernel
theorem kX_draftProduct_d54 : decode prog_1_method_28_code 54 = .ok (.getfield 29, 3) := by decide +kernel
theorem kX_draftProduct_d57 : decode prog_1_method_28_code 57 = .ok (.getfield 291, 3) := by decide +kernel
theorem kX_draftProduct_d60 : decode prog_1_method_28_code 60 = .ok (.iconst 0, 1) := by decide +kernel
theorem kX_draftProduct_d61 : decode prog_1_method_28_code 61 = .ok (.invokevirtual 294, 3) := by decide +kernel
theorem kX_draftProduct_d64 : decode prog_1_method_28_code 64 = .ok (.iinc 6 1, 3) := by decide +kernel
theorem kX_draftProduct_d67 : decode prog_1_method_28_code 67 = .ok (.goto (-52), 3) := by decide +kernel
theorem kX_draftProduct_d70 : decode prog_1_method_28_code 70 = .ok (.return_, 1) := by decide +kernel
theorem kX_turn_d0 : decode prog_1_method_7_code 0 = .ok (.aload_n 0, 1) := by decide +kernel
theorem kX_turn_d1 : decode prog_1_method_7_code 1 = .ok (.iload_n 1, 1) := by decide +kernel
theorem kX_turn_d2 : decode prog_1_method_7_code 2 = .ok (.invokevirtual 63, 3) := by decide +kernel
theorem kX_turn_d5 : decode prog_1_method_7_code 5 = .ok (.pop, 1) := by decide +kernel
theorem kX_turn_d6 : decode prog_1_method_7_code 6 = .ok (.aload_n 0, 1) := by decide +kernel
theorem kX_turn_d7 : decode prog_1_method_7_code 7 = .ok (.iload_n 2, 1) := by decide +kernel
theorem kX_turn_d8 : decode prog_1_method_7_code 8 = .ok (.invokevirtual 63, 3) := by decide +kernel
theorem kX_turn_d11 : decode prog_1_method_7_code 11 = .ok (.astore_n 3, 1) := by decide +kernel
theorem kX_turn_d12 : decode prog_1_method_7_code 12 = .ok (.aload_n 0, 1) := by decide +kernel
theorem kX_turn_d13 : decode prog_1_method_7_code 13 = .ok (.getfield 22, 3) := by decide +kernel
theorem kX_turn_d16 : decode prog_1_method_7_code 16 = .ok (.aload_n 3, 1) := by decide +kernel
theorem kX_turn_d17 : decode prog_1_method_7_code 17 = .ok (.getfield 146, 3) := by decide +kernel
theorem kX_turn_d20 : decode prog_1_method_7_code 20 = .ok (.aload_n 3, 1) := by decide +kernel
theorem kX_turn_d21 : decode prog_1_method_7_code 21 = .ok (.getfield 143, 3) := by decide +kernel
theorem kX_turn_d24 : decode prog_1_method_7_code 24 = .ok (.invokevirtual 78, 3) := by decide +kernel
theorem kX_turn_d27 : decode prog_1_method_7_code 27 = .ok (.aload_n 0, 1) := by decide +kernel
theorem kX_turn_d28 : decode prog_1_method_7_code 28 = .ok (.getfield 22, 3) := by decide +kernel
theorem kX_turn_d31 : decode prog_1_method_7_code 31 = .ok (.getfield 121, 3) := by decide +kernel
theorem kX_turn_d34 : decode prog_1_method_7_code 34 = .ok (.aload_n 3, 1) := by decide +kernel
theorem kX_turn_d35 : decode prog_1_method_7_code 35 = .ok (.getfield 121, 3) := by decide +kernel
theorem kX_turn_d38 : decode prog_1_method_7_code 38 = .ok (.invokevirtual 165, 3) := by decide +kernel
theorem kX_turn_d41 : decode prog_1_method_7_code 41 = .ok (.iconst 0, 1) := by decide +kernel
theorem kX_turn_d42 : decode prog_1_method_7_code 42 = .ok (.istore 4, 2) := by decide +kernel
theorem kX_turn_d44 : decode prog_1_method_7_code 44 = .ok (.iload 4, 2) := by decide +kernel
theorem kX_turn_d46 : decode prog_1_method_7_code 46 = .ok (.aload_n 3, 1) := by decide +kernel
theorem kX_turn_d47 : decode prog_1_method_7_code 47 = .ok (.getfield 143, 3) := by decide +kernel
theorem kX_turn_d50 : decode prog_1_method_7_code 50 = .ok (.if_icmp .ge 49, 3) := by decide +kernel
theorem kX_turn_d53 : decode prog_1_method_7_code 53 = .ok (.iconst 0, 1) := by decide +kernel
theorem kX_turn_d54 : decode prog_1_method_7_code 54 = .ok (.istore 5, 2) := by decide +kernel
theorem kX_turn_d56 : decode prog_1_method_7_code 56 = .ok (.iload 5, 2) := by decide +kernel
theorem kX_turn_d58 : decode prog_1_method_7_code 58 = .ok (.aload_n 3, 1) := by decide +kernel
theorem kX_turn_d59 : decode prog_1_method_7_code 59 = .ok (.getfield 146, 3) := by decide +kernel
theorem kX_turn_d62 : decode prog_1_method_7_code 62 = .ok (.if_icmp .ge 31, 3) := by decide +kernel
theorem kX_turn_d65 : decode prog_1_method_7_code 65 = .ok (.aload_n 0, 1) := by decide +kernel
theorem kX_turn_d66 : decode prog_1_method_7_code 66 = .ok (.getfield 22, 3) := by decide +kernel
theorem kX_turn_d69 : decode prog_1_method_7_code 69 = .ok (.iload 5, 2) := by decide +kernel
theorem kX_turn_d71 : decode prog_1_method_7_code 71 = .ok (.iload 4, 2) := by decide +kernel
theorem kX_turn_d73 : decode prog_1_method_7_code 73 = .ok (.invokevirtual 92, 3) := by decide +kernel
theorem kX_turn_d76 : decode prog_1_method_7_code 76 = .ok (.aload_n 3, 1) := by decide +kernel
theorem kX_turn_d77 : decode prog_1_method_7_code 77 = .ok (.iload 4, 2) := by decide +kernel
theorem kX_turn_d79 : decode prog_1_method_7_code 79 = .ok (.iload 5, 2) := by decide +kernel
theorem kX_turn_d81 : decode prog_1_method_7_code 81 = .ok (.invokevirtual 92, 3) := by decide +kernel
theorem kX_turn_d84 : decode prog_1_method_7_code 84 = .ok (.invokevirtual 165, 3) := by decide +kernel
theorem kX_turn_d87 : decode prog_1_method_7_code 87 = .ok (.iinc 5 1, 3) := by decide +kernel
theorem kX_turn_d90 : decode prog_1_method_7_code 90 = .ok (.goto (-34), 3) := by decide +kernel
theorem kX_turn_d93 : decode prog_1_method_7_code 93 = .ok (.iinc 4 1, 3) := by decide +kernel
theorem kX_turn_d96 : decode prog_1_method_7_code 96 = .ok (.goto (-52), 3) := by decide +kernel
theorem kX_turn_d99 : decode prog_1_method_7_code 99 = .ok (.aload_n 0, 1) := by decide +kernel
theorem kX_turn_d100 : decode prog_1_method_7_code 100 = .ok (.iload_n 1, 1) := by decide +kernel
theorem kX_turn_d101 : decode prog_1_method_7_code 101 = .ok (.invokevirtual 137, 3) := by decide +kernel
theorem kX_turn_d104 : decode prog_1_method_7_code 104 = .ok (.return_, 1) := by decide +kernel
theorem kX_beside_d0 : decode prog_1_method_8_code 0 = .ok (.aload_n 0, 1) := by decide +kernel
theorem kX_beside_d1 : decode prog_1_method_8_code 1 = .ok (.iload_n 1, 1) := by decide +kernel
theorem kX_beside_d2 : decode prog_1_method_8_code 2 = .ok (.invokevirtual 63, 3) := by decide +kernel
theorem kX_beside_d5 : decode prog_1_method_8_code 5 = .ok (.pop, 1) := by decide +kernel
theorem kX_beside_d6 : decode prog_1_method_8_code 6 = .ok (.aload_n 0, 1) := by decide +kernel
theorem kX_beside_d7 : decode prog_1_method_8_code 7 = .ok (.iload_n 2, 1) := by decide +kernel
theorem kX_beside_d8 : decode prog_1_method_8_code 8 = .ok (.invokevirtual 63, 3) := by decide +kernel
theorem kX_beside_d11 : decode prog_1_method_8_code 11 = .ok (.astore 4, 2) := by decide +kernel
theorem kX_beside_d13 : decode prog_1_method_8_code 13 = .ok (.aload_n 0, 1) := by decide +kernel
theorem kX_beside_d14 : decode prog_1_method_8_code 14 = .ok (.iload_n 3, 1) := by decide +kernel
theorem kX_beside_d15 : decode prog_1_method_8_code 15 = .ok (.invokevirtual 63, 3) := by decide +kernel
theorem kX_beside_d18 : decode prog_1_method_8_code 18 = .ok (.astore 5, 2) := by decide +kernel
theorem kX_beside_d20 : decode prog_1_method_8_code 20 = .ok (.aload 4, 2) := by decide +kernel
theorem kX_beside_d22 : decode prog_1_method_8_code 22 = .ok (.getfield 143, 3) := by decide +kernel
theorem kX_beside_d25 : decode prog_1_method_8_code 25 = .ok (.aload 5, 2) := by decide +kernel
theorem kX_beside_d27 : decode prog_1_method_8_code 27 = .ok (.getfield 143, 3) := by decide +kernel
theorem kX_beside_d30 : decode prog_1_method_8_code 30 = .ok (.if_icmp .eq 13, 3) := by decide +kernel
theorem kX_beside_d33 : decode prog_1_method_8_code 33 = .ok (.new 71, 3) := by decide +kernel
theorem kX_beside_d36 : decode prog_1_method_8_code 36 = .ok (.dup, 1) := by decide +kernel
theorem kX_beside_d37 : decode prog_1_method_8_code 37 = .ok (.ldc 174, 2) := by decide +kernel
theorem kX_beside_d39 : decode prog_1_method_8_code 39 = .ok (.invokespecial 75, 3) := by decide +kernel
theorem kX_beside_d42 : decode prog_1_method_8_code 42 = .ok (.athrow, 1) := by decide +kernel
theorem kX_beside_d43 : decode prog_1_method_8_code 43 = .ok (.aload 4, 2) := by decide +kernel
theorem kX_beside_d45 : decode prog_1_method_8_code 45 = .ok (.getfield 146, 3) := by decide +kernel
theorem kX_beside_d48 : decode prog_1_method_8_code 48 = .ok (.aload 5, 2) := by decide +kernel
theorem kX_beside_d50 : decode prog_1_method_8_code 50 = .ok (.getfield 146, 3) := by decide +kernel
theorem kX_beside_d53 : decode prog_1_method_8_code 53 = .ok (.iadd, 1) := by decide +kernel
theorem kX_beside_d54 : decode prog_1_method_8_code 54 = .ok (.bipush 16, 2) := by decide +kernel
theorem kX_beside_d56 : decode prog_1_method_8_code 56 = .ok (.if_icmp .le 13, 3) := by decide +kernel
theorem kX_beside_d59 : decode prog_1_method_8_code 59 = .ok (.new 176, 3) := by decide +kernel
theorem kX_beside_d62 : decode prog_1_method_8_code 62 = .ok (.dup, 1) := by decide +kernel
theorem kX_beside_d63 : decode prog_1_method_8_code 63 = .ok (.ldc 178, 2) := by decide +kernel
theorem kX_beside_d65 : decode prog_1_method_8_code 65 = .ok (.invokespecial 180, 3) := by decide +kernel
theorem kX_beside_d68 : decode prog_1_method_8_code 68 = .ok (.athrow, 1) := by decide +kernel
theorem kX_beside_d69 : decode prog_1_method_8_code 69 = .ok (.aload_n 0, 1) := by decide +kernel
theorem kX_beside_d70 : decode prog_1_method_8_code 70 = .ok (.aload 4, 2) := by decide +kernel
theorem kX_beside_d72 : decode prog_1_method_8_code 72 = .ok (.aload 5, 2) := by decide +kernel
theorem kX_beside_d74 : decode prog_1_method_8_code 74 = .ok (.aload 4, 2) := by decide +kernel
theorem kX_beside_d76 : decode prog_1_method_8_code 76 = .ok (.getfield 146, 3) := by decide +kernel
theorem kX_beside_d79 : decode prog_1_method_8_code 79 = .ok (.aload 5, 2) := by decide +kernel
theorem kX_beside_d81 : decode prog_1_method_8_code 81 = .ok (.getfield 146, 3) := by decide +kernel
theorem kX_beside_d84 : decode prog_1_method_8_code 84 = .ok (.iadd, 1) := by decide +kernel
theorem kX_beside_d85 : decode prog_1_method_8_code 85 = .ok (.invokevirtual 151, 3) := by decide +kernel
theorem kX_beside_d88 : decode prog_1_method_8_code 88 = .ok (.iconst 0, 1) := by decide +kernel
theorem kX_beside_d89 : decode prog_1_method_8_code 89 = .ok (.istore 6, 2) := by decide +kernel
theorem kX_beside_d91 : decode prog_1_method_8_code 91 = .ok (.iload 6, 2) := by decide +kernel
theorem kX_beside_d93 : decode prog_1_method_8_code 93 = .ok (.aload 4, 2) := by decide +kernel
theorem kX_beside_d95 : decode prog_1_method_8_code 95 = .ok (.getfield 143, 3) := by decide +kernel
theorem kX_beside_d98 : decode prog_1_method_8_code 98 = .ok (.if_icmp .ge 113, 3) := by decide +kernel
theorem kX_beside_d101 : decode prog_1_method_8_code 101 = .ok (.iconst 0, 1) := by decide +kernel
theorem kX_beside_d102 : decode prog_1_method_8_code 102 = .ok (.istore 7, 2) := by decide +kernel
theorem kX_beside_d104 : decode prog_1_method_8_code 104 = .ok (.iload 7, 2) := by decide +kernel
theorem kX_beside_d106 : decode prog_1_method_8_code 106 = .ok (.aload 4, 2) := by decide +kernel
theorem kX_beside_d108 : decode prog_1_method_8_code 108 = .ok (.getfield 146, 3) := by decide +kernel
theorem kX_beside_d111 : decode prog_1_method_8_code 111 = .ok (.if_icmp .ge 39, 3) := by decide +kernel
theorem kX_beside_d114 : decode prog_1_method_8_code 114 = .ok (.aload_n 0, 1) := by decide +kernel
theorem kX_beside_d115 : decode prog_1_method_8_code 115 = .ok (.getfield 22, 3) := by decide +kernel
theorem kX_beside_d118 : decode prog_1_method_8_code 118 = .ok (.iload 6, 2) := by decide +kernel
theorem kX_beside_d120 : decode prog_1_method_8_code 120 = .ok (.iload 7, 2) := by decide +kernel
theorem kX_beside_d122 : decode prog_1_method_8_code 122 = .ok (.invokevirtual 92, 3) := by decide +kernel
theorem kX_beside_d125 : decode prog_1_method_8_code 125 = .ok (.aload 4, 2) := by decide +kernel
theorem kX_beside_d127 : decode prog_1_method_8_code 127 = .ok (.iload 6, 2) := by decide +kernel
theorem kX_beside_d129 : decode prog_1_method_8_code 129 = .ok (.iload 7, 2) := by decide +kernel
theorem kX_beside_d131 : decode prog_1_method_8_code 131 = .ok (.invokevirtual 92, 3) := by decide +kernel
theorem kX_beside_d134 : decode prog_1_method_8_code 134 = .ok (.aload_n 0, 1) := by decide +kernel
theorem kX_beside_d135 : decode prog_1_method_8_code 135 = .ok (.getfield 29, 3) := by decide +kernel
theorem kX_beside_d138 : decode prog_1_method_8_code 138 = .ok (.getfield 155, 3) := by decide +kernel
theorem kX_beside_d141 : decode prog_1_method_8_code 141 = .ok (.invokevirtual 134, 3) := by decide +kernel
theorem kX_beside_d144 : decode prog_1_method_8_code 144 = .ok (.iinc 7 1, 3) := by decide +kernel
theorem kX_beside_d147 : decode prog_1_method_8_code 147 = .ok (.goto (-43), 3) := by decide +kernel
theorem kX_beside_d150 : decode prog_1_method_8_code 150 = .ok (.iconst 0, 1) := by decide +kernel
theorem kX_beside_d151 : decode prog_1_method_8_code 151 = .ok (.istore 7, 2) := by decide +kernel
theorem kX_beside_d153 : decode prog_1_method_8_code 153 = .ok (.iload 7, 2) := by decide +kernel
theorem kX_beside_d155 : decode prog_1_method_8_code 155 = .ok (.aload 5, 2) := by decide +kernel
theorem kX_beside_d157 : decode prog_1_method_8_code 157 = .ok (.getfield 146, 3) := by decide +kernel
theorem kX_beside_d160 : decode prog_1_method_8_code 160 = .ok (.if_icmp .ge 45, 3) := by decide +kernel
theorem kX_beside_d163 : decode prog_1_method_8_code 163 = .ok (.aload_n 0, 1) := by decide +kernel
theorem kX_beside_d164 : decode prog_1_method_8_code 164 = .ok (.getfield 22, 3) := by decide +kernel
theorem kX_beside_d167 : decode prog_1_method_8_code 167 = .ok (.iload 6, 2) := by decide +kernel
theorem kX_beside_d169 : decode prog_1_method_8_code 169 = .ok (.aload 4, 2) := by decide +kernel
theorem kX_beside_d171 : decode prog_1_method_8_code 171 = .ok (.getfield 146, 3) := by decide +kernel
theorem kX_beside_d174 : decode prog_1_method_8_code 174 = .ok (.iload 7, 2) := by decide +kernel
theorem kX_beside_d176 : decode prog_1_method_8_code 176 = .ok (.iadd, 1) := by decide +kernel
theorem kX_beside_d177 : decode prog_1_method_8_code 177 = .ok (.invokevirtual 92, 3) := by decide +kernel
theorem kX_beside_d180 : decode prog_1_method_8_code 180 = .ok (.aload 5, 2) := by decide +kernel
theorem kX_beside_d182 : decode prog_1_method_8_code 182 = .ok (.iload 6, 2) := by decide +kernel
theorem kX_beside_d184 : decode prog_1_method_8_code 184 = .ok (.iload 7, 2) := by decide +kernel
theorem kX_beside_d186 : decode prog_1_method_8_code 186 = .ok (.invokevirtual 92, 3) := by decide +kernel
theorem kX_beside_d189 : decode prog_1_method_8_code 189 = .ok (.aload_n 0, 1) := by decide +kernel
theorem kX_beside_d190 : decode prog_1_method_8_code 190 = .ok (.getfield 29, 3) := by decide +kernel
theorem kX_beside_d193 : decode prog_1_method_8_code 193 = .ok (.getfield 131, 3) := by decide +kernel
theorem kX_beside_d196 : decode prog_1_method_8_code 196 = .ok (.invokevirtual 134, 3) := by decide +kernel
theorem kX_beside_d199 : decode prog_1_method_8_code 199 = .ok (.iinc 7 1, 3) := by decide +kernel
theorem kX_beside_d202 : decode prog_1_method_8_code 202 = .ok (.goto (-49), 3) := by decide +kernel
theorem kX_beside_d205 : decode prog_1_method_8_code 205 = .ok (.iinc 6 1, 3) := by decide +kernel
theorem kX_beside_d208 : decode prog_1_method_8_code 208 = .ok (.goto (-117), 3) := by decide +kernel
theorem kX_beside_d211 : decode prog_1_method_8_code 211 = .ok (.aload_n 0, 1) := by decide +kernel
theorem kX_beside_d212 : decode prog_1_method_8_code 212 = .ok (.iload_n 1, 1) := by decide +kernel
theorem kX_beside_d213 : decode prog_1_method_8_code 213 = .ok (.invokevirtual 137, 3) := by decide +kernel
theorem kX_beside_d216 : decode prog_1_method_8_code 216 = .ok (.return_, 1) := by decide +kernel
theorem kX_part_d0 : decode prog_1_method_9_code 0 = .ok (.aload_n 0, 1) := by decide +kernel
theorem kX_part_d1 : decode prog_1_method_9_code 1 = .ok (.iload_n 1, 1) := by decide +kernel
theorem kX_part_d2 : decode prog_1_method_9_code 2 = .ok (.invokevirtual 63, 3) := by decide +kernel
theorem kX_part_d5 : decode prog_1_method_9_code 5 = .ok (.pop, 1) := by decide +kernel
theorem kX_part_d6 : decode prog_1_method_9_code 6 = .ok (.aload_n 0, 1) := by decide +kernel
theorem kX_part_d7 : decode prog_1_method_9_code 7 = .ok (.iload_n 2, 1) := by decide +kernel
theorem kX_part_d8 : decode prog_1_method_9_code 8 = .ok (.invokevirtual 63, 3) := by decide +kernel
theorem kX_part_d11 : decode prog_1_method_9_code 11 = .ok (.astore 7, 2) := by decide +kernel
theorem kX_part_d13 : decode prog_1_method_9_code 13 = .ok (.aload 7, 2) := by decide +kernel
theorem kX_part_d15 : decode prog_1_method_9_code 15 = .ok (.iload_n 3, 1) := by decide +kernel
theorem kX_part_d16 : decode prog_1_method_9_code 16 = .ok (.iload 5, 2) := by decide +kernel
theorem kX_part_d18 : decode prog_1_method_9_code 18 = .ok (.invokestatic 82, 3) := by decide +kernel
theorem kX_part_d21 : decode prog_1_method_9_code 21 = .ok (.aload 7, 2) := by decide +kernel
theorem kX_part_d23 : decode prog_1_method_9_code 23 = .ok (.iload 4, 2) := by decide +kernel
theorem kX_part_d25 : decode prog_1_method_9_code 25 = .ok (.iload 6, 2) := by decide +kernel
theorem kX_part_d27 : decode prog_1_method_9_code 27 = .ok (.invokestatic 82, 3) := by decide +kernel
theorem kX_part_d30 : decode prog_1_method_9_code 30 = .ok (.iload_n 3, 1) := by decide +kernel
theorem kX_part_d31 : decode prog_1_method_9_code 31 = .ok (.iload 4, 2) := by decide +kernel
theorem kX_part_d33 : decode prog_1_method_9_code 33 = .ok (.if_icmp .gt 10, 3) := by decide +kernel
theorem kX_part_d36 : decode prog_1_method_9_code 36 = .ok (.iload 5, 2) := by decide +kernel
theorem kX_part_d38 : decode prog_1_method_9_code 38 = .ok (.iload 6, 2) := by decide +kernel
theorem kX_part_d40 : decode prog_1_method_9_code 40 = .ok (.if_icmp .le 13, 3) := by decide +kernel
theorem kX_part_d43 : decode prog_1_method_9_code 43 = .ok (.new 71, 3) := by decide +kernel
theorem kX_part_d46 : decode prog_1_method_9_code 46 = .ok (.dup, 1) := by decide +kernel
theorem kX_part_d47 : decode prog_1_method_9_code 47 = .ok (.ldc 181, 2) := by decide +kernel
theorem kX_part_d49 : decode prog_1_method_9_code 49 = .ok (.invokespecial 75, 3) := by decide +kernel
theorem kX_part_d52 : decode prog_1_method_9_code 52 = .ok (.athrow, 1) := by decide +kernel
theorem kX_part_d53 : decode prog_1_method_9_code 53 = .ok (.aload_n 0, 1) := by decide +kernel
theorem kX_part_d54 : decode prog_1_method_9_code 54 = .ok (.getfield 22, 3) := by decide +kernel
theorem kX_part_d57 : decode prog_1_method_9_code 57 = .ok (.iload 4, 2) := by decide +kernel
theorem kX_part_d59 : decode prog_1_method_9_code 59 = .ok (.iload_n 3, 1) := by decide +kernel
theorem kX_part_d60 : decode prog_1_method_9_code 60 = .ok (.isub, 1) := by decide +kernel
theorem kX_part_d61 : decode prog_1_method_9_code 61 = .ok (.iconst 1, 1) := by decide +kernel
theorem kX_part_d62 : decode prog_1_method_9_code 62 = .ok (.iadd, 1) := by decide +kernel
theorem kX_part_d63 : decode prog_1_method_9_code 63 = .ok (.iload 6, 2) := by decide +kernel
theorem kX_part_d65 : decode prog_1_method_9_code 65 = .ok (.iload 5, 2) := by decide +kernel
theorem kX_part_d67 : decode prog_1_method_9_code 67 = .ok (.isub, 1) := by decide +kernel
theorem kX_part_d68 : decode prog_1_method_9_code 68 = .ok (.iconst 1, 1) := by decide +kernel
theorem kX_part_d69 : decode prog_1_method_9_code 69 = .ok (.iadd, 1) := by decide +kernel
theorem kX_part_d70 : decode prog_1_method_9_code 70 = .ok (.invokevirtual 78, 3) := by decide +kernel
theorem kX_part_d73 : decode prog_1_method_9_code 73 = .ok (.aload_n 0, 1) := by decide +kernel
theorem kX_part_d74 : decode prog_1_method_9_code 74 = .ok (.getfield 22, 3) := by decide +kernel
theorem kX_part_d77 : decode prog_1_method_9_code 77 = .ok (.getfield 121, 3) := by decide +kernel
theorem kX_part_d80 : decode prog_1_method_9_code 80 = .ok (.aload 7, 2) := by decide +kernel
theorem kX_part_d82 : decode prog_1_method_9_code 82 = .ok (.getfield 121, 3) := by decide +kernel
theorem kX_part_d85 : decode prog_1_method_9_code 85 = .ok (.invokevirtual 165, 3) := by decide +kernel
theorem kX_part_d88 : decode prog_1_method_9_code 88 = .ok (.iload_n 3, 1) := by decide +kernel
theorem kX_part_d89 : decode prog_1_method_9_code 89 = .ok (.istore 8, 2) := by decide +kernel
theorem kX_part_d91 : decode prog_1_method_9_code 91 = .ok (.iload 8, 2) := by decide +kernel
theorem kX_part_d93 : decode prog_1_method_9_code 93 = .ok (.iload 4, 2) := by decide +kernel
theorem kX_part_d95 : decode prog_1_method_9_code 95 = .ok (.if_icmp .gt 54, 3) := by decide +kernel
theorem kX_part_d98 : decode prog_1_method_9_code 98 = .ok (.iload 5, 2) := by decide +kernel
theorem kX_part_d100 : decode prog_1_method_9_code 100 = .ok (.istore 9, 2) := by decide +kernel
theorem kX_part_d102 : decode prog_1_method_9_code 102 = .ok (.iload 9, 2) := by decide +kernel
theorem kX_part_d104 : decode prog_1_method_9_code 104 = .ok (.iload 6, 2) := by decide +kernel
theorem kX_part_d106 : decode prog_1_method_9_code 106 = .ok (.if_icmp .gt 37, 3) := by decide +kernel
theorem kX_part_d109 : decode prog_1_method_9_code 109 = .ok (.aload_n 0, 1) := by decide +kernel
theorem kX_part_d110 : decode prog_1_method_9_code 110 = .ok (.getfield 22, 3) := by decide +kernel
theorem kX_part_d113 : decode prog_1_method_9_code 113 = .ok (.iload 8, 2) := by decide +kernel
theorem kX_part_d115 : decode prog_1_method_9_code 115 = .ok (.iload_n 3, 1) := by decide +kernel
theorem kX_part_d116 : decode prog_1_method_9_code 116 = .ok (.isub, 1) := by decide +kernel
theorem kX_part_d117 : decode prog_1_method_9_code 117 = .ok (.iload 9, 2) := by decide +kernel
theorem kX_part_d119 : decode prog_1_method_9_code 119 = .ok (.iload 5, 2) := by decide +kernel
theorem kX_part_d121 : decode prog_1_method_9_code 121 = .ok (.isub, 1) := by decide +kernel
theorem kX_part_d122 : decode prog_1_method_9_code 122 = .ok (.invokevirtual 92, 3) := by decide +kernel
theorem kX_part_d125 : decode prog_1_method_9_code 125 = .ok (.aload 7, 2) := by decide +kernel
theorem kX_part_d127 : decode prog_1_method_9_code 127 = .ok (.iload 8, 2) := by decide +kernel
theorem kX_part_d129 : decode prog_1_method_9_code 129 = .ok (.iload 9, 2) := by decide +kernel
theorem kX_part_d131 : decode prog_1_method_9_code 131 = .ok (.invokevirtual 92, 3) := by decide +kernel
theorem kX_part_d134 : decode prog_1_method_9_code 134 = .ok (.invokevirtual 165, 3) := by decide +kernel
theorem kX_part_d137 : decode prog_1_method_9_code 137 = .ok (.iinc 9 1, 3) := by decide +kernel
theorem kX_part_d140 : decode prog_1_method_9_code 140 = .ok (.goto (-38), 3) := by decide +kernel
theorem kX_part_d143 : decode prog_1_method_9_code 143 = .ok (.iinc 8 1, 3) := by decide +kernel
theorem kX_part_d146 : decode prog_1_method_9_code 146 = .ok (.goto (-55), 3) := by decide +kernel
theorem kX_part_d149 : decode prog_1_method_9_code 149 = .ok (.aload_n 0, 1) := by decide +kernel
theorem kX_part_d150 : decode prog_1_method_9_code 150 = .ok (.invokevirtual 104, 3) := by decide +kernel
theorem kX_part_d153 : decode prog_1_method_9_code 153 = .ok (.aload_n 0, 1) := by decide +kernel
theorem kX_part_d154 : decode prog_1_method_9_code 154 = .ok (.iload_n 1, 1) := by decide +kernel
theorem kX_part_d155 : decode prog_1_method_9_code 155 = .ok (.invokevirtual 137, 3) := by decide +kernel
theorem kX_part_d158 : decode prog_1_method_9_code 158 = .ok (.return_, 1) := by decide +kernel
theorem kX_echelon_d0 : decode prog_1_method_10_code 0 = .ok (.aload_n 0, 1) := by decide +kernel
theorem kX_echelon_d1 : decode prog_1_method_10_code 1 = .ok (.iload_n 1, 1) := by decide +kernel
theorem kX_echelon_d2 : decode prog_1_method_10_code 2 = .ok (.invokevirtual 63, 3) := by decide +kernel
theorem kX_echelon_d5 : decode prog_1_method_10_code 5 = .ok (.pop, 1) := by decide +kernel
theorem kX_echelon_d6 : decode prog_1_method_10_code 6 = .ok (.aload_n 0, 1) := by decide +kernel
theorem kX_echelon_d7 : decode prog_1_method_10_code 7 = .ok (.iload_n 2, 1) := by decide +kernel
theorem kX_echelon_d8 : decode prog_1_method_10_code 8 = .ok (.invokevirtual 63, 3) := by decide +kernel
theorem kX_echelon_d11 : decode prog_1_method_10_code 11 = .ok (.astore_n 3, 1) := by decide +kernel
theorem kX_echelon_d12 : decode prog_1_method_10_code 12 = .ok (.aload_n 0, 1) := by decide +kernel
theorem kX_echelon_d13 : decode prog_1_method_10_code 13 = .ok (.getfield 38, 3) := by decide +kernel
theorem kX_echelon_d16 : decode prog_1_method_10_code 16 = .ok (.aload_n 3, 1) := by decide +kernel
theorem kX_echelon_d17 : decode prog_1_method_10_code 17 = .ok (.iconst 0, 1) := by decide +kernel
theorem kX_echelon_d18 : decode prog_1_method_10_code 18 = .ok (.invokevirtual 183, 3) := by decide +kernel
theorem kX_echelon_d21 : decode prog_1_method_10_code 21 = .ok (.aload_n 0, 1) := by decide +kernel
theorem kX_echelon_d22 : decode prog_1_method_10_code 22 = .ok (.getfield 38, 3) := by decide +kernel
theorem kX_echelon_d25 : decode prog_1_method_10_code 25 = .ok (.invokevirtual 187, 3) := by decide +kernel
theorem kX_echelon_d28 : decode prog_1_method_10_code 28 = .ok (.aload_n 0, 1) := by decide +kernel
theorem kX_echelon_d29 : decode prog_1_method_10_code 29 = .ok (.getfield 38, 3) := by decide +kernel
theorem kX_echelon_d32 : decode prog_1_method_10_code 32 = .ok (.aload_n 3, 1) := by decide +kernel
theorem kX_echelon_d33 : decode prog_1_method_10_code 33 = .ok (.getfield 146, 3) := by decide +kernel
theorem kX_echelon_d36 : decode prog_1_method_10_code 36 = .ok (.invokevirtual 190, 3) := by decide +kernel
theorem kX_echelon_d39 : decode prog_1_method_10_code 39 = .ok (.aload_n 0, 1) := by decide +kernel
theorem kX_echelon_d40 : decode prog_1_method_10_code 40 = .ok (.getfield 38, 3) := by decide +kernel
theorem kX_echelon_d43 : decode prog_1_method_10_code 43 = .ok (.iconst 0, 1) := by decide +kernel
theorem kX_echelon_d44 : decode prog_1_method_10_code 44 = .ok (.invokevirtual 193, 3) := by decide +kernel
theorem kX_echelon_d47 : decode prog_1_method_10_code 47 = .ok (.aload_n 0, 1) := by decide +kernel
theorem kX_echelon_d48 : decode prog_1_method_10_code 48 = .ok (.getfield 22, 3) := by decide +kernel
theorem kX_echelon_d51 : decode prog_1_method_10_code 51 = .ok (.aload_n 3, 1) := by decide +kernel
theorem kX_echelon_d52 : decode prog_1_method_10_code 52 = .ok (.getfield 143, 3) := by decide +kernel
theorem kX_echelon_d55 : decode prog_1_method_10_code 55 = .ok (.aload_n 3, 1) := by decide +kernel
theorem kX_echelon_d56 : decode prog_1_method_10_code 56 = .ok (.getfield 146, 3) := by decide +kernel
theorem kX_echelon_d59 : decode prog_1_method_10_code 59 = .ok (.invokevirtual 78, 3) := by decide +kernel
theorem kX_echelon_d62 : decode prog_1_method_10_code 62 = .ok (.aload_n 0, 1) := by decide +kernel
theorem kX_echelon_d63 : decode prog_1_method_10_code 63 = .ok (.getfield 22, 3) := by decide +kernel
theorem kX_echelon_d66 : decode prog_1_method_10_code 66 = .ok (.getfield 121, 3) := by decide +kernel
theorem kX_echelon_d69 : decode prog_1_method_10_code 69 = .ok (.aload_n 0, 1) := by decide +kernel
theorem kX_echelon_d70 : decode prog_1_method_10_code 70 = .ok (.getfield 38, 3) := by decide +kernel
theorem kX_echelon_d73 : decode prog_1_method_10_code 73 = .ok (.getfield 196, 3) := by decide +kernel
theorem kX_echelon_d76 : decode prog_1_method_10_code 76 = .ok (.invokevirtual 165, 3) := by decide +kernel
theorem kX_echelon_d79 : decode prog_1_method_10_code 79 = .ok (.iconst 0, 1) := by decide +kernel
theorem kX_echelon_d80 : decode prog_1_method_10_code 80 = .ok (.istore 4, 2) := by decide +kernel
theorem kX_echelon_d82 : decode prog_1_method_10_code 82 = .ok (.iload 4, 2) := by decide +kernel
theorem kX_echelon_d84 : decode prog_1_method_10_code 84 = .ok (.aload_n 0, 1) := by decide +kernel
theorem kX_echelon_d85 : decode prog_1_method_10_code 85 = .ok (.getfield 38, 3) := by decide +kernel
theorem kX_echelon_d88 : decode prog_1_method_10_code 88 = .ok (.getfield 199, 3) := by decide +kernel
theorem kX_echelon_d91 : decode prog_1_method_10_code 91 = .ok (.if_icmp .ge 94, 3) := by decide +kernel
theorem kX_echelon_d94 : decode prog_1_method_10_code 94 = .ok (.aload_n 0, 1) := by decide +kernel
theorem kX_echelon_d95 : decode prog_1_method_10_code 95 = .ok (.getfield 22, 3) := by decide +kernel
theorem kX_echelon_d98 : decode prog_1_method_10_code 98 = .ok (.iload 4, 2) := by decide +kernel
theorem kX_echelon_d100 : decode prog_1_method_10_code 100 = .ok (.aload_n 0, 1) := by decide +kernel
theorem kX_echelon_d101 : decode prog_1_method_10_code 101 = .ok (.getfield 38, 3) := by decide +kernel
theorem kX_echelon_d104 : decode prog_1_method_10_code 104 = .ok (.getfield 202, 3) := by decide +kernel
theorem kX_echelon_d107 : decode prog_1_method_10_code 107 = .ok (.iload 4, 2) := by decide +kernel
theorem kX_echelon_d109 : decode prog_1_method_10_code 109 = .ok (.iaload, 1) := by decide +kernel
theorem kX_echelon_d110 : decode prog_1_method_10_code 110 = .ok (.invokevirtual 92, 3) := by decide +kernel
theorem kX_echelon_d113 : decode prog_1_method_10_code 113 = .ok (.aload_n 0, 1) := by decide +kernel
theorem kX_echelon_d114 : decode prog_1_method_10_code 114 = .ok (.getfield 38, 3) := by decide +kernel
theorem kX_echelon_d117 : decode prog_1_method_10_code 117 = .ok (.getfield 196, 3) := by decide +kernel
theorem kX_echelon_d120 : decode prog_1_method_10_code 120 = .ok (.invokevirtual 165, 3) := by decide +kernel
theorem kX_echelon_d123 : decode prog_1_method_10_code 123 = .ok (.iconst 0, 1) := by decide +kernel
theorem kX_echelon_d124 : decode prog_1_method_10_code 124 = .ok (.istore 5, 2) := by decide +kernel
theorem kX_echelon_d126 : decode prog_1_method_10_code 126 = .ok (.iload 5, 2) := by decide +kernel
theorem kX_echelon_d128 : decode prog_1_method_10_code 128 = .ok (.aload_n 3, 1) := by decide +kernel
theorem kX_echelon_d129 : decode prog_1_method_10_code 129 = .ok (.getfield 146, 3) := by decide +kernel
theorem kX_echelon_d132 : decode prog_1_method_10_code 132 = .ok (.if_icmp .ge 47, 3) := by decide +kernel
theorem kX_echelon_d135 : decode prog_1_method_10_code 135 = .ok (.aload_n 0, 1) := by decide +kernel
theorem kX_echelon_d136 : decode prog_1_method_10_code 136 = .ok (.getfield 38, 3) := by decide +kernel
theorem kX_echelon_d139 : decode prog_1_method_10_code 139 = .ok (.getfield 205, 3) := by decide +kernel
theorem kX_echelon_d142 : decode prog_1_method_10_code 142 = .ok (.iload 5, 2) := by decide +kernel
theorem kX_echelon_d144 : decode prog_1_method_10_code 144 = .ok (.baload, 1) := by decide +kernel
theorem kX_echelon_d145 : decode prog_1_method_10_code 145 = .ok (.ifCond .ne 28, 3) := by decide +kernel
theorem kX_echelon_d148 : decode prog_1_method_10_code 148 = .ok (.aload_n 0, 1) := by decide +kernel
theorem kX_echelon_d149 : decode prog_1_method_10_code 149 = .ok (.getfield 22, 3) := by decide +kernel
theorem kX_echelon_d152 : decode prog_1_method_10_code 152 = .ok (.iload 4, 2) := by decide +kernel
theorem kX_echelon_d154 : decode prog_1_method_10_code 154 = .ok (.iload 5, 2) := by decide +kernel
theorem kX_echelon_d156 : decode prog_1_method_10_code 156 = .ok (.invokevirtual 92, 3) := by decide +kernel
theorem kX_echelon_d159 : decode prog_1_method_10_code 159 = .ok (.aload_n 0, 1) := by decide +kernel
theorem kX_echelon_d160 : decode prog_1_method_10_code 160 = .ok (.getfield 38, 3) := by decide +kernel
theorem kX_echelon_d163 : decode prog_1_method_10_code 163 = .ok (.iload 4, 2) := by decide +kernel
theorem kX_echelon_d165 : decode prog_1_method_10_code 165 = .ok (.iload 5, 2) := by decide +kernel
theorem kX_echelon_d167 : decode prog_1_method_10_code 167 = .ok (.invokevirtual 209, 3) := by decide +kernel
theorem kX_echelon_d170 : decode prog_1_method_10_code 170 = .ok (.invokevirtual 165, 3) := by decide +kernel
theorem kX_echelon_d173 : decode prog_1_method_10_code 173 = .ok (.iinc 5 1, 3) := by decide +kernel
theorem kX_echelon_d176 : decode prog_1_method_10_code 176 = .ok (.goto (-50), 3) := by decide +kernel
theorem kX_echelon_d179 : decode prog_1_method_10_code 179 = .ok (.iinc 4 1, 3) := by decide +kernel
theorem kX_echelon_d182 : decode prog_1_method_10_code 182 = .ok (.goto (-100), 3) := by decide +kernel
theorem kX_echelon_d185 : decode prog_1_method_10_code 185 = .ok (.aload_n 0, 1) := by decide +kernel
theorem kX_echelon_d186 : decode prog_1_method_10_code 186 = .ok (.getfield 38, 3) := by decide +kernel
theorem kX_echelon_d189 : decode prog_1_method_10_code 189 = .ok (.getfield 199, 3) := by decide +kernel
theorem kX_echelon_d192 : decode prog_1_method_10_code 192 = .ok (.istore 4, 2) := by decide +kernel
theorem kX_echelon_d194 : decode prog_1_method_10_code 194 = .ok (.aload_n 0, 1) := by decide +kernel
theorem kX_echelon_d195 : decode prog_1_method_10_code 195 = .ok (.invokevirtual 104, 3) := by decide +kernel
theorem kX_echelon_d198 : decode prog_1_method_10_code 198 = .ok (.aload_n 0, 1) := by decide +kernel
theorem kX_echelon_d199 : decode prog_1_method_10_code 199 = .ok (.iload_n 1, 1) := by decide +kernel
theorem kX_echelon_d200 : decode prog_1_method_10_code 200 = .ok (.invokevirtual 137, 3) := by decide +kernel
theorem kX_echelon_d203 : decode prog_1_method_10_code 203 = .ok (.iload 4, 2) := by decide +kernel
theorem kX_echelon_d205 : decode prog_1_method_10_code 205 = .ok (.ireturn, 1) := by decide +kernel
theorem kX_kernel_d0 : decode prog_1_method_11_code 0 = .ok (.aload_n 0, 1) := by decide +kernel
theorem kX_kernel_d1 : decode prog_1_method_11_code 1 = .ok (.iload_n 1, 1) := by decide +kernel
theorem kX_kernel_d2 : decode prog_1_method_11_code 2 = .ok (.invokevirtual 63, 3) := by decide +kernel
theorem kX_kernel_d5 : decode prog_1_method_11_code 5 = .ok (.pop, 1) := by decide +kernel
theorem kX_kernel_d6 : decode prog_1_method_11_code 6 = .ok (.aload_n 0, 1) := by decide +kernel
theorem kX_kernel_d7 : decode prog_1_method_11_code 7 = .ok (.iload_n 2, 1) := by decide +kernel
theorem kX_kernel_d8 : decode prog_1_method_11_code 8 = .ok (.invokevirtual 63, 3) := by decide +kernel
theorem kX_kernel_d11 : decode prog_1_method_11_code 11 = .ok (.astore_n 3, 1) := by decide +kernel
theorem kX_kernel_d12 : decode prog_1_method_11_code 12 = .ok (.aload_n 0, 1) := by decide +kernel
theorem kX_kernel_d13 : decode prog_1_method_11_code 13 = .ok (.getfield 38, 3) := by decide +kernel
theorem kX_kernel_d16 : decode prog_1_method_11_code 16 = .ok (.aload_n 3, 1) := by decide +kernel
theorem kX_kernel_d17 : decode prog_1_method_11_code 17 = .ok (.iconst 1, 1) := by decide +kernel
theorem kX_kernel_d18 : decode prog_1_method_11_code 18 = .ok (.invokevirtual 183, 3) := by decide +kernel
theorem kX_kernel_d21 : decode prog_1_method_11_code 21 = .ok (.aload_n 0, 1) := by decide +kernel
theorem kX_kernel_d22 : decode prog_1_method_11_code 22 = .ok (.getfield 38, 3) := by decide +kernel
theorem kX_kernel_d25 : decode prog_1_method_11_code 25 = .ok (.invokevirtual 187, 3) := by decide +kernel
theorem kX_kernel_d28 : decode prog_1_method_11_code 28 = .ok (.aload_n 0, 1) := by decide +kernel
theorem kX_kernel_d29 : decode prog_1_method_11_code 29 = .ok (.getfield 38, 3) := by decide +kernel
theorem kX_kernel_d32 : decode prog_1_method_11_code 32 = .ok (.aload_n 3, 1) := by decide +kernel
theorem kX_kernel_d33 : decode prog_1_method_11_code 33 = .ok (.getfield 146, 3) := by decide +kernel
theorem kX_kernel_d36 : decode prog_1_method_11_code 36 = .ok (.invokevirtual 190, 3) := by decide +kernel
theorem kX_kernel_d39 : decode prog_1_method_11_code 39 = .ok (.aload_n 3, 1) := by decide +kernel
theorem kX_kernel_d40 : decode prog_1_method_11_code 40 = .ok (.getfield 146, 3) := by decide +kernel
theorem kX_kernel_d43 : decode prog_1_method_11_code 43 = .ok (.aload_n 0, 1) := by decide +kernel
theorem kX_kernel_d44 : decode prog_1_method_11_code 44 = .ok (.getfield 38, 3) := by decide +kernel
theorem kX_kernel_d47 : decode prog_1_method_11_code 47 = .ok (.getfield 199, 3) := by decide +kernel
theorem kX_kernel_d50 : decode prog_1_method_11_code 50 = .ok (.isub, 1) := by decide +kernel
theorem kX_kernel_d51 : decode prog_1_method_11_code 51 = .ok (.istore 4, 2) := by decide +kernel
theorem kX_kernel_d53 : decode prog_1_method_11_code 53 = .ok (.iload 4, 2) := by decide +kernel
theorem kX_kernel_d55 : decode prog_1_method_11_code 55 = .ok (.iconst 1, 1) := by decide +kernel
theorem kX_kernel_d56 : decode prog_1_method_11_code 56 = .ok (.if_icmp .ge 5, 3) := by decide +kernel
theorem kX_kernel_d59 : decode prog_1_method_11_code 59 = .ok (.iconst 0, 1) := by decide +kernel
theorem kX_kernel_d60 : decode prog_1_method_11_code 60 = .ok (.ireturn, 1) := by decide +kernel
theorem kX_kernel_d61 : decode prog_1_method_11_code 61 = .ok (.aload_n 0, 1) := by decide +kernel
theorem kX_kernel_d62 : decode prog_1_method_11_code 62 = .ok (.getfield 38, 3) := by decide +kernel
theorem kX_kernel_d65 : decode prog_1_method_11_code 65 = .ok (.iconst 0, 1) := by decide +kernel
theorem kX_kernel_d66 : decode prog_1_method_11_code 66 = .ok (.invokevirtual 193, 3) := by decide +kernel
theorem kX_kernel_d69 : decode prog_1_method_11_code 69 = .ok (.aload_n 0, 1) := by decide +kernel
theorem kX_kernel_d70 : decode prog_1_method_11_code 70 = .ok (.iload 4, 2) := by decide +kernel
theorem kX_kernel_d72 : decode prog_1_method_11_code 72 = .ok (.aload_n 3, 1) := by decide +kernel
theorem kX_kernel_d73 : decode prog_1_method_11_code 73 = .ok (.getfield 146, 3) := by decide +kernel
theorem kX_kernel_d76 : decode prog_1_method_11_code 76 = .ok (.invokevirtual 210, 3) := by decide +kernel
theorem kX_kernel_d79 : decode prog_1_method_11_code 79 = .ok (.aload_n 0, 1) := by decide +kernel
theorem kX_kernel_d80 : decode prog_1_method_11_code 80 = .ok (.invokevirtual 104, 3) := by decide +kernel
theorem kX_kernel_d83 : decode prog_1_method_11_code 83 = .ok (.aload_n 0, 1) := by decide +kernel
theorem kX_kernel_d84 : decode prog_1_method_11_code 84 = .ok (.iload_n 1, 1) := by decide +kernel
theorem kX_kernel_d85 : decode prog_1_method_11_code 85 = .ok (.invokevirtual 137, 3) := by decide +kernel
theorem kX_kernel_d88 : decode prog_1_method_11_code 88 = .ok (.iload 4, 2) := by decide +kernel
theorem kX_kernel_d90 : decode prog_1_method_11_code 90 = .ok (.ireturn, 1) := by decide +kernel
theorem kX_draftKernel_d0 : decode prog_1_method_29_code 0 = .ok (.aload_n 0, 1) := by decide +kernel
theorem kX_draftKernel_d1 : decode prog_1_method_29_code 1 = .ok (.getfield 22, 3) := by decide +kernel
theorem kX_draftKernel_d4 : decode prog_1_method_29_code 4 = .ok (.iload_n 1, 1) := by decide +kernel
theorem kX_draftKernel_d5 : decode prog_1_method_29_code 5 = .ok (.iload_n 2, 1) := by decide +kernel
theorem kX_draftKernel_d6 : decode prog_1_method_29_code 6 = .ok (.invokevirtual 78, 3) := by decide +kernel
theorem kX_draftKernel_d9 : decode prog_1_method_29_code 9 = .ok (.aload_n 0, 1) := by decide +kernel
theorem kX_draftKernel_d10 : decode prog_1_method_29_code 10 = .ok (.getfield 22, 3) := by decide +kernel
theorem kX_draftKernel_d13 : decode prog_1_method_29_code 13 = .ok (.getfield 121, 3) := by decide +kernel
theorem kX_draftKernel_d16 : decode prog_1_method_29_code 16 = .ok (.aload_n 0, 1) := by decide +kernel
theorem kX_draftKernel_d17 : decode prog_1_method_29_code 17 = .ok (.getfield 38, 3) := by decide +kernel
theorem kX_draftKernel_d20 : decode prog_1_method_29_code 20 = .ok (.getfield 196, 3) := by decide +kernel
theorem kX_draftKernel_d23 : decode prog_1_method_29_code 23 = .ok (.invokevirtual 165, 3) := by decide +kernel
theorem kX_draftKernel_d26 : decode prog_1_method_29_code 26 = .ok (.iload_n 1, 1) := by decide +kernel
theorem kX_draftKernel_d27 : decode prog_1_method_29_code 27 = .ok (.istore_n 3, 1) := by decide +kernel
theorem kX_draftKernel_d28 : decode prog_1_method_29_code 28 = .ok (.iconst 0, 1) := by decide +kernel
theorem kX_draftKernel_d29 : decode prog_1_method_29_code 29 = .ok (.istore 4, 2) := by decide +kernel
theorem kX_draftKernel_d31 : decode prog_1_method_29_code 31 = .ok (.iload 4, 2) := by decide +kernel
theorem kX_draftKernel_d33 : decode prog_1_method_29_code 33 = .ok (.iload_n 2, 1) := by decide +kernel
theorem kX_draftKernel_d34 : decode prog_1_method_29_code 34 = .ok (.if_icmp .ge 119, 3) := by decide +kernel
theorem kX_draftKernel_d37 : decode prog_1_method_29_code 37 = .ok (.aload_n 0, 1) := by decide +kernel
theorem kX_draftKernel_d38 : decode prog_1_method_29_code 38 = .ok (.getfield 38, 3) := by decide +kernel
theorem kX_draftKernel_d41 : decode prog_1_method_29_code 41 = .ok (.getfield 205, 3) := by decide +kernel
theorem kX_draftKernel_d44 : decode prog_1_method_29_code 44 = .ok (.iload 4, 2) := by decide +kernel
theorem kX_draftKernel_d46 : decode prog_1_method_29_code 46 = .ok (.baload, 1) := by decide +kernel
theorem kX_draftKernel_d47 : decode prog_1_method_29_code 47 = .ok (.ifCond .ne 100, 3) := by decide +kernel
theorem kX_draftKernel_d50 : decode prog_1_method_29_code 50 = .ok (.iload_n 3, 1) := by decide +kernel
theorem kX_draftKernel_d51 : decode prog_1_method_29_code 51 = .ok (.ifCond .le 96, 3) := by decide +kernel
theorem kX_draftKernel_d54 : decode prog_1_method_29_code 54 = .ok (.iinc 3 (-1), 3) := by decide +kernel
theorem kX_draftKernel_d57 : decode prog_1_method_29_code 57 = .ok (.aload_n 0, 1) := by decide +kernel
theorem kX_draftKernel_d58 : decode prog_1_method_29_code 58 = .ok (.getfield 22, 3) := by decide +kernel
theorem kX_draftKernel_d61 : decode prog_1_method_29_code 61 = .ok (.iload_n 3, 1) := by decide +kernel
theorem kX_draftKernel_d62 : decode prog_1_method_29_code 62 = .ok (.iload_n 2, 1) := by decide +kernel
theorem kX_draftKernel_d63 : decode prog_1_method_29_code 63 = .ok (.iconst 1, 1) := by decide +kernel
theorem kX_draftKernel_d64 : decode prog_1_method_29_code 64 = .ok (.isub, 1) := by decide +kernel
theorem kX_draftKernel_d65 : decode prog_1_method_29_code 65 = .ok (.iload 4, 2) := by decide +kernel
theorem kX_draftKernel_d67 : decode prog_1_method_29_code 67 = .ok (.isub, 1) := by decide +kernel
theorem kX_draftKernel_d68 : decode prog_1_method_29_code 68 = .ok (.invokevirtual 92, 3) := by decide +kernel
theorem kX_draftKernel_d71 : decode prog_1_method_29_code 71 = .ok (.aload_n 0, 1) := by decide +kernel
theorem kX_draftKernel_d72 : decode prog_1_method_29_code 72 = .ok (.getfield 38, 3) := by decide +kernel
theorem kX_draftKernel_d75 : decode prog_1_method_29_code 75 = .ok (.getfield 196, 3) := by decide +kernel
theorem kX_draftKernel_d78 : decode prog_1_method_29_code 78 = .ok (.invokevirtual 165, 3) := by decide +kernel
theorem kX_draftKernel_d81 : decode prog_1_method_29_code 81 = .ok (.iconst 0, 1) := by decide +kernel
theorem kX_draftKernel_d82 : decode prog_1_method_29_code 82 = .ok (.istore 5, 2) := by decide +kernel
theorem kX_draftKernel_d84 : decode prog_1_method_29_code 84 = .ok (.iload 5, 2) := by decide +kernel
theorem kX_draftKernel_d86 : decode prog_1_method_29_code 86 = .ok (.aload_n 0, 1) := by decide +kernel
theorem kX_draftKernel_d87 : decode prog_1_method_29_code 87 = .ok (.getfield 38, 3) := by decide +kernel
theorem kX_draftKernel_d90 : decode prog_1_method_29_code 90 = .ok (.getfield 199, 3) := by decide +kernel
theorem kX_draftKernel_d93 : decode prog_1_method_29_code 93 = .ok (.if_icmp .ge 54, 3) := by decide +kernel
theorem kX_draftKernel_d96 : decode prog_1_method_29_code 96 = .ok (.aload_n 0, 1) := by decide +kernel
theorem kX_draftKernel_d97 : decode prog_1_method_29_code 97 = .ok (.getfield 22, 3) := by decide +kernel
theorem kX_draftKernel_d100 : decode prog_1_method_29_code 100 = .ok (.iload_n 3, 1) := by decide +kernel
theorem kX_draftKernel_d101 : decode prog_1_method_29_code 101 = .ok (.iload_n 2, 1) := by decide +kernel
theorem kX_draftKernel_d102 : decode prog_1_method_29_code 102 = .ok (.iconst 1, 1) := by decide +kernel
theorem kX_draftKernel_d103 : decode prog_1_method_29_code 103 = .ok (.isub, 1) := by decide +kernel
theorem kX_draftKernel_d104 : decode prog_1_method_29_code 104 = .ok (.aload_n 0, 1) := by decide +kernel
theorem kX_draftKernel_d105 : decode prog_1_method_29_code 105 = .ok (.getfield 38, 3) := by decide +kernel
theorem kX_draftKernel_d108 : decode prog_1_method_29_code 108 = .ok (.getfield 202, 3) := by decide +kernel
theorem kX_draftKernel_d111 : decode prog_1_method_29_code 111 = .ok (.iload 5, 2) := by decide +kernel
theorem kX_draftKernel_d113 : decode prog_1_method_29_code 113 = .ok (.iaload, 1) := by decide +kernel
theorem kX_draftKernel_d114 : decode prog_1_method_29_code 114 = .ok (.isub, 1) := by decide +kernel
theorem kX_draftKernel_d115 : decode prog_1_method_29_code 115 = .ok (.invokevirtual 92, 3) := by decide +kernel
theorem kX_draftKernel_d118 : decode prog_1_method_29_code 118 = .ok (.astore 6, 2) := by decide +kernel
theorem kX_draftKernel_d120 : decode prog_1_method_29_code 120 = .ok (.aload 6, 2) := by decide +kernel
theorem kX_draftKernel_d122 : decode prog_1_method_29_code 122 = .ok (.aload_n 0, 1) := by decide +kernel
theorem kX_draftKernel_d123 : decode prog_1_method_29_code 123 = .ok (.getfield 38, 3) := by decide +kernel
theorem kX_draftKernel_d126 : decode prog_1_method_29_code 126 = .ok (.iload 5, 2) := by decide +kernel
theorem kX_draftKernel_d128 : decode prog_1_method_29_code 128 = .ok (.iload 4, 2) := by decide +kernel
theorem kX_draftKernel_d130 : decode prog_1_method_29_code 130 = .ok (.invokevirtual 209, 3) := by decide +kernel
theorem kX_draftKernel_d133 : decode prog_1_method_29_code 133 = .ok (.invokevirtual 165, 3) := by decide +kernel
theorem kX_draftKernel_d136 : decode prog_1_method_29_code 136 = .ok (.aload 6, 2) := by decide +kernel
theorem kX_draftKernel_d138 : decode prog_1_method_29_code 138 = .ok (.invokevirtual 297, 3) := by decide +kernel
theorem kX_draftKernel_d141 : decode prog_1_method_29_code 141 = .ok (.iinc 5 1, 3) := by decide +kernel
theorem kX_draftKernel_d144 : decode prog_1_method_29_code 144 = .ok (.goto (-60), 3) := by decide +kernel
theorem kX_draftKernel_d147 : decode prog_1_method_29_code 147 = .ok (.iinc 4 1, 3) := by decide +kernel
theorem kX_draftKernel_d150 : decode prog_1_method_29_code 150 = .ok (.goto (-119), 3) := by decide +kernel
theorem kX_draftKernel_d153 : decode prog_1_method_29_code 153 = .ok (.return_, 1) := by decide +kernel
theorem kX_solve_d0 : decode prog_1_method_12_code 0 = .ok (.aload_n 0, 1) := by decide +kernel
theorem kX_solve_d1 : decode prog_1_method_12_code 1 = .ok (.iload_n 1, 1) := by decide +kernel
theorem kX_solve_d2 : decode prog_1_method_12_code 2 = .ok (.invokevirtual 63, 3) := by decide +kernel
theorem kX_solve_d5 : decode prog_1_method_12_code 5 = .ok (.pop, 1) := by decide +kernel
theorem kX_solve_d6 : decode prog_1_method_12_code 6 = .ok (.aload_n 0, 1) := by decide +kernel
theorem kX_solve_d7 : decode prog_1_method_12_code 7 = .ok (.iload_n 2, 1) := by decide +kernel
theorem kX_solve_d8 : decode prog_1_method_12_code 8 = .ok (.invokevirtual 63, 3) := by decide +kernel
theorem kX_solve_d11 : decode prog_1_method_12_code 11 = .ok (.astore 4, 2) := by decide +kernel
theorem kX_solve_d13 : decode prog_1_method_12_code 13 = .ok (.aload_n 0, 1) := by decide +kernel
theorem kX_solve_d14 : decode prog_1_method_12_code 14 = .ok (.iload_n 3, 1) := by decide +kernel
theorem kX_solve_d15 : decode prog_1_method_12_code 15 = .ok (.invokevirtual 63, 3) := by decide +kernel
theorem kX_solve_d18 : decode prog_1_method_12_code 18 = .ok (.astore 5, 2) := by decide +kernel
theorem kX_solve_d20 : decode prog_1_method_12_code 20 = .ok (.aload 4, 2) := by decide +kernel
theorem kX_solve_d22 : decode prog_1_method_12_code 22 = .ok (.getfield 143, 3) := by decide +kernel
theorem kX_solve_d25 : decode prog_1_method_12_code 25 = .ok (.aload 5, 2) := by decide +kernel
theorem kX_solve_d27 : decode prog_1_method_12_code 27 = .ok (.getfield 143, 3) := by decide +kernel
theorem kX_solve_d30 : decode prog_1_method_12_code 30 = .ok (.if_icmp .eq 13, 3) := by decide +kernel
theorem kX_solve_d33 : decode prog_1_method_12_code 33 = .ok (.new 71, 3) := by decide +kernel
theorem kX_solve_d36 : decode prog_1_method_12_code 36 = .ok (.dup, 1) := by decide +kernel
theorem kX_solve_d37 : decode prog_1_method_12_code 37 = .ok (.ldc 174, 2) := by decide +kernel
theorem kX_solve_d39 : decode prog_1_method_12_code 39 = .ok (.invokespecial 75, 3) := by decide +kernel
theorem kX_solve_d42 : decode prog_1_method_12_code 42 = .ok (.athrow, 1) := by decide +kernel
theorem kX_solve_d43 : decode prog_1_method_12_code 43 = .ok (.aload_n 0, 1) := by decide +kernel
theorem kX_solve_d44 : decode prog_1_method_12_code 44 = .ok (.getfield 38, 3) := by decide +kernel
theorem kX_solve_d47 : decode prog_1_method_12_code 47 = .ok (.aload 4, 2) := by decide +kernel
theorem kX_solve_d49 : decode prog_1_method_12_code 49 = .ok (.iconst 0, 1) := by decide +kernel
theorem kX_solve_d50 : decode prog_1_method_12_code 50 = .ok (.invokevirtual 183, 3) := by decide +kernel
theorem kX_solve_d53 : decode prog_1_method_12_code 53 = .ok (.aload_n 0, 1) := by decide +kernel
theorem kX_solve_d54 : decode prog_1_method_12_code 54 = .ok (.getfield 38, 3) := by decide +kernel
theorem kX_solve_d57 : decode prog_1_method_12_code 57 = .ok (.aload 5, 2) := by decide +kernel
theorem kX_solve_d59 : decode prog_1_method_12_code 59 = .ok (.invokevirtual 213, 3) := by decide +kernel
theorem kX_solve_d62 : decode prog_1_method_12_code 62 = .ok (.aload_n 0, 1) := by decide +kernel
theorem kX_solve_d63 : decode prog_1_method_12_code 63 = .ok (.getfield 38, 3) := by decide +kernel
theorem kX_solve_d66 : decode prog_1_method_12_code 66 = .ok (.invokevirtual 187, 3) := by decide +kernel
theorem kX_solve_d69 : decode prog_1_method_12_code 69 = .ok (.aload_n 0, 1) := by decide +kernel
theorem kX_solve_d70 : decode prog_1_method_12_code 70 = .ok (.getfield 38, 3) := by decide +kernel
theorem kX_solve_d73 : decode prog_1_method_12_code 73 = .ok (.aload 4, 2) := by decide +kernel
theorem kX_solve_d75 : decode prog_1_method_12_code 75 = .ok (.getfield 146, 3) := by decide +kernel
theorem kX_solve_d78 : decode prog_1_method_12_code 78 = .ok (.invokevirtual 190, 3) := by decide +kernel
theorem kX_solve_d81 : decode prog_1_method_12_code 81 = .ok (.aload_n 0, 1) := by decide +kernel
theorem kX_solve_d82 : decode prog_1_method_12_code 82 = .ok (.getfield 38, 3) := by decide +kernel
theorem kX_solve_d85 : decode prog_1_method_12_code 85 = .ok (.aload 4, 2) := by decide +kernel
theorem kX_solve_d87 : decode prog_1_method_12_code 87 = .ok (.getfield 146, 3) := by decide +kernel
theorem kX_solve_d90 : decode prog_1_method_12_code 90 = .ok (.invokevirtual 216, 3) := by decide +kernel
theorem kX_solve_d93 : decode prog_1_method_12_code 93 = .ok (.ifCond .eq 5, 3) := by decide +kernel
theorem kX_solve_d96 : decode prog_1_method_12_code 96 = .ok (.iconst 0, 1) := by decide +kernel
theorem kX_solve_d97 : decode prog_1_method_12_code 97 = .ok (.ireturn, 1) := by decide +kernel
theorem kX_solve_d98 : decode prog_1_method_12_code 98 = .ok (.aload_n 0, 1) := by decide +kernel
theorem kX_solve_d99 : decode prog_1_method_12_code 99 = .ok (.aload 4, 2) := by decide +kernel
theorem kX_solve_d101 : decode prog_1_method_12_code 101 = .ok (.getfield 146, 3) := by decide +kernel
theorem kX_solve_d104 : decode prog_1_method_12_code 104 = .ok (.aload 5, 2) := by decide +kernel
theorem kX_solve_d106 : decode prog_1_method_12_code 106 = .ok (.getfield 146, 3) := by decide +kernel
theorem kX_solve_d109 : decode prog_1_method_12_code 109 = .ok (.invokevirtual 219, 3) := by decide +kernel
theorem kX_solve_d112 : decode prog_1_method_12_code 112 = .ok (.aload_n 0, 1) := by decide +kernel
theorem kX_solve_d113 : decode prog_1_method_12_code 113 = .ok (.invokevirtual 104, 3) := by decide +kernel
theorem kX_solve_d116 : decode prog_1_method_12_code 116 = .ok (.aload_n 0, 1) := by decide +kernel
theorem kX_solve_d117 : decode prog_1_method_12_code 117 = .ok (.iload_n 1, 1) := by decide +kernel
theorem kX_solve_d118 : decode prog_1_method_12_code 118 = .ok (.invokevirtual 137, 3) := by decide +kernel
theorem kX_solve_d121 : decode prog_1_method_12_code 121 = .ok (.iconst 1, 1) := by decide +kernel
theorem kX_solve_d122 : decode prog_1_method_12_code 122 = .ok (.ireturn, 1) := by decide +kernel
theorem kX_draftSolution_d0 : decode prog_1_method_30_code 0 = .ok (.aload_n 0, 1) := by decide +kernel
theorem kX_draftSolution_d1 : decode prog_1_method_30_code 1 = .ok (.getfield 38, 3) := by decide +kernel
theorem kX_draftSolution_d4 : decode prog_1_method_30_code 4 = .ok (.iload_n 1, 1) := by decide +kernel
theorem kX_draftSolution_d5 : decode prog_1_method_30_code 5 = .ok (.invokevirtual 193, 3) := by decide +kernel
theorem kX_draftSolution_d8 : decode prog_1_method_30_code 8 = .ok (.aload_n 0, 1) := by decide +kernel
theorem kX_draftSolution_d9 : decode prog_1_method_30_code 9 = .ok (.getfield 22, 3) := by decide +kernel
theorem kX_draftSolution_d12 : decode prog_1_method_30_code 12 = .ok (.iload_n 1, 1) := by decide +kernel
theorem kX_draftSolution_d13 : decode prog_1_method_30_code 13 = .ok (.iload_n 2, 1) := by decide +kernel
theorem kX_draftSolution_d14 : decode prog_1_method_30_code 14 = .ok (.invokevirtual 78, 3) := by decide +kernel
theorem kX_draftSolution_d17 : decode prog_1_method_30_code 17 = .ok (.aload_n 0, 1) := by decide +kernel
theorem kX_draftSolution_d18 : decode prog_1_method_30_code 18 = .ok (.getfield 22, 3) := by decide +kernel
theorem kX_draftSolution_d21 : decode prog_1_method_30_code 21 = .ok (.getfield 121, 3) := by decide +kernel
theorem kX_draftSolution_d24 : decode prog_1_method_30_code 24 = .ok (.aload_n 0, 1) := by decide +kernel
theorem kX_draftSolution_d25 : decode prog_1_method_30_code 25 = .ok (.getfield 38, 3) := by decide +kernel
theorem kX_draftSolution_d28 : decode prog_1_method_30_code 28 = .ok (.getfield 196, 3) := by decide +kernel
theorem kX_draftSolution_d31 : decode prog_1_method_30_code 31 = .ok (.invokevirtual 165, 3) := by decide +kernel
theorem kX_draftSolution_d34 : decode prog_1_method_30_code 34 = .ok (.iconst 0, 1) := by decide +kernel
theorem kX_draftSolution_d35 : decode prog_1_method_30_code 35 = .ok (.istore_n 3, 1) := by decide +kernel
theorem kX_draftSolution_d36 : decode prog_1_method_30_code 36 = .ok (.iload_n 3, 1) := by decide +kernel
theorem kX_draftSolution_d37 : decode prog_1_method_30_code 37 = .ok (.aload_n 0, 1) := by decide +kernel
theorem kX_draftSolution_d38 : decode prog_1_method_30_code 38 = .ok (.getfield 38, 3) := by decide +kernel
theorem kX_draftSolution_d41 : decode prog_1_method_30_code 41 = .ok (.getfield 199, 3) := by decide +kernel
theorem kX_draftSolution_d44 : decode prog_1_method_30_code 44 = .ok (.if_icmp .ge 57, 3) := by decide +kernel
theorem kX_draftSolution_d47 : decode prog_1_method_30_code 47 = .ok (.iconst 0, 1) := by decide +kernel
theorem kX_draftSolution_d48 : decode prog_1_method_30_code 48 = .ok (.istore 4, 2) := by decide +kernel
theorem kX_draftSolution_d50 : decode prog_1_method_30_code 50 = .ok (.iload 4, 2) := by decide +kernel
theorem kX_draftSolution_d52 : decode prog_1_method_30_code 52 = .ok (.iload_n 2, 1) := by decide +kernel
theorem kX_draftSolution_d53 : decode prog_1_method_30_code 53 = .ok (.if_icmp .ge 42, 3) := by decide +kernel
theorem kX_draftSolution_d56 : decode prog_1_method_30_code 56 = .ok (.aload_n 0, 1) := by decide +kernel
theorem kX_draftSolution_d57 : decode prog_1_method_30_code 57 = .ok (.getfield 22, 3) := by decide +kernel
theorem kX_draftSolution_d60 : decode prog_1_method_30_code 60 = .ok (.aload_n 0, 1) := by decide +kernel
theorem kX_draftSolution_d61 : decode prog_1_method_30_code 61 = .ok (.getfield 38, 3) := by decide +kernel
theorem kX_draftSolution_d64 : decode prog_1_method_30_code 64 = .ok (.getfield 202, 3) := by decide +kernel
theorem kX_draftSolution_d67 : decode prog_1_method_30_code 67 = .ok (.iload_n 3, 1) := by decide +kernel
theorem kX_draftSolution_d68 : decode prog_1_method_30_code 68 = .ok (.iaload, 1) := by decide +kernel
theorem kX_draftSolution_d69 : decode prog_1_method_30_code 69 = .ok (.iload 4, 2) := by decide +kernel
theorem kX_draftSolution_d71 : decode prog_1_method_30_code 71 = .ok (.invokevirtual 92, 3) := by decide +kernel
theorem kX_draftSolution_d74 : decode prog_1_method_30_code 74 = .ok (.aload_n 0, 1) := by decide +kernel
theorem kX_draftSolution_d75 : decode prog_1_method_30_code 75 = .ok (.getfield 38, 3) := by decide +kernel
theorem kX_draftSolution_d78 : decode prog_1_method_30_code 78 = .ok (.iload_n 3, 1) := by decide +kernel
theorem kX_draftSolution_d79 : decode prog_1_method_30_code 79 = .ok (.iload_n 1, 1) := by decide +kernel
theorem kX_draftSolution_d80 : decode prog_1_method_30_code 80 = .ok (.iload 4, 2) := by decide +kernel
theorem kX_draftSolution_d82 : decode prog_1_method_30_code 82 = .ok (.iadd, 1) := by decide +kernel
theorem kX_draftSolution_d83 : decode prog_1_method_30_code 83 = .ok (.invokevirtual 209, 3) := by decide +kernel
theorem kX_draftSolution_d86 : decode prog_1_method_30_code 86 = .ok (.invokevirtual 165, 3) := by decide +kernel
theorem kX_draftSolution_d89 : decode prog_1_method_30_code 89 = .ok (.iinc 4 1, 3) := by decide +kernel
theorem kX_draftSolution_d92 : decode prog_1_method_30_code 92 = .ok (.goto (-42), 3) := by decide +kernel
theorem kX_draftSolution_d95 : decode prog_1_method_30_code 95 = .ok (.iinc 3 1, 3) := by decide +kernel
theorem kX_draftSolution_d98 : decode prog_1_method_30_code 98 = .ok (.goto (-62), 3) := by decide +kernel
theorem kX_draftSolution_d101 : decode prog_1_method_30_code 101 = .ok (.return_, 1) := by decide +kernel
theorem kX_invert_d0 : decode prog_1_method_13_code 0 = .ok (.aload_n 0, 1) := by decide +kernel
theorem kX_invert_d1 : decode prog_1_method_13_code 1 = .ok (.iload_n 1, 1) := by decide +kernel
theorem kX_invert_d2 : decode prog_1_method_13_code 2 = .ok (.invokevirtual 63, 3) := by decide +kernel
theorem kX_invert_d5 : decode prog_1_method_13_code 5 = .ok (.pop, 1) := by decide +kernel
theorem kX_invert_d6 : decode prog_1_method_13_code 6 = .ok (.aload_n 0, 1) := by decide +kernel
theorem kX_invert_d7 : decode prog_1_method_13_code 7 = .ok (.iload_n 2, 1) := by decide +kernel
theorem kX_invert_d8 : decode prog_1_method_13_code 8 = .ok (.invokevirtual 63, 3) := by decide +kernel
theorem kX_invert_d11 : decode prog_1_method_13_code 11 = .ok (.astore_n 3, 1) := by decide +kernel
theorem kX_invert_d12 : decode prog_1_method_13_code 12 = .ok (.aload_n 3, 1) := by decide +kernel
theorem kX_invert_d13 : decode prog_1_method_13_code 13 = .ok (.getfield 143, 3) := by decide +kernel
theorem kX_invert_d16 : decode prog_1_method_13_code 16 = .ok (.aload_n 3, 1) := by decide +kernel
theorem kX_invert_d17 : decode prog_1_method_13_code 17 = .ok (.getfield 146, 3) := by decide +kernel
theorem kX_invert_d20 : decode prog_1_method_13_code 20 = .ok (.if_icmp .eq 13, 3) := by decide +kernel
theorem kX_invert_d23 : decode prog_1_method_13_code 23 = .ok (.new 71, 3) := by decide +kernel
theorem kX_invert_d26 : decode prog_1_method_13_code 26 = .ok (.dup, 1) := by decide +kernel
theorem kX_invert_d27 : decode prog_1_method_13_code 27 = .ok (.ldc 222, 2) := by decide +kernel
theorem kX_invert_d29 : decode prog_1_method_13_code 29 = .ok (.invokespecial 75, 3) := by decide +kernel
theorem kX_invert_d32 : decode prog_1_method_13_code 32 = .ok (.athrow, 1) := by decide +kernel
theorem kX_invert_d33 : decode prog_1_method_13_code 33 = .ok (.aload_n 3, 1) := by decide +kernel
theorem kX_invert_d34 : decode prog_1_method_13_code 34 = .ok (.getfield 143, 3) := by decide +kernel
theorem kX_invert_d37 : decode prog_1_method_13_code 37 = .ok (.istore 4, 2) := by decide +kernel
theorem kX_invert_d39 : decode prog_1_method_13_code 39 = .ok (.aload_n 0, 1) := by decide +kernel
theorem kX_invert_d40 : decode prog_1_method_13_code 40 = .ok (.getfield 22, 3) := by decide +kernel
theorem kX_invert_d43 : decode prog_1_method_13_code 43 = .ok (.iload 4, 2) := by decide +kernel
theorem kX_invert_d45 : decode prog_1_method_13_code 45 = .ok (.invokevirtual 140, 3) := by decide +kernel
theorem kX_invert_d48 : decode prog_1_method_13_code 48 = .ok (.aload_n 0, 1) := by decide +kernel
theorem kX_invert_d49 : decode prog_1_method_13_code 49 = .ok (.getfield 38, 3) := by decide +kernel
theorem kX_invert_d52 : decode prog_1_method_13_code 52 = .ok (.aload_n 3, 1) := by decide +kernel
theorem kX_invert_d53 : decode prog_1_method_13_code 53 = .ok (.iconst 0, 1) := by decide +kernel
theorem kX_invert_d54 : decode prog_1_method_13_code 54 = .ok (.invokevirtual 183, 3) := by decide +kernel
theorem kX_invert_d57 : decode prog_1_method_13_code 57 = .ok (.aload_n 0, 1) := by decide +kernel
theorem kX_invert_d58 : decode prog_1_method_13_code 58 = .ok (.getfield 38, 3) := by decide +kernel
theorem kX_invert_d61 : decode prog_1_method_13_code 61 = .ok (.aload_n 0, 1) := by decide +kernel
theorem kX_invert_d62 : decode prog_1_method_13_code 62 = .ok (.getfield 22, 3) := by decide +kernel
theorem kX_invert_d65 : decode prog_1_method_13_code 65 = .ok (.invokevirtual 213, 3) := by decide +kernel
theorem kX_invert_d68 : decode prog_1_method_13_code 68 = .ok (.aload_n 0, 1) := by decide +kernel
theorem kX_invert_d69 : decode prog_1_method_13_code 69 = .ok (.getfield 38, 3) := by decide +kernel
theorem kX_invert_d72 : decode prog_1_method_13_code 72 = .ok (.invokevirtual 187, 3) := by decide +kernel
theorem kX_invert_d75 : decode prog_1_method_13_code 75 = .ok (.aload_n 0, 1) := by decide +kernel
theorem kX_invert_d76 : decode prog_1_method_13_code 76 = .ok (.getfield 38, 3) := by decide +kernel
theorem kX_invert_d79 : decode prog_1_method_13_code 79 = .ok (.iload 4, 2) := by decide +kernel
theorem kX_invert_d81 : decode prog_1_method_13_code 81 = .ok (.invokevirtual 190, 3) := by decide +kernel
theorem kX_invert_d84 : decode prog_1_method_13_code 84 = .ok (.aload_n 0, 1) := by decide +kernel
theorem kX_invert_d85 : decode prog_1_method_13_code 85 = .ok (.getfield 38, 3) := by decide +kernel
theorem kX_invert_d88 : decode prog_1_method_13_code 88 = .ok (.getfield 199, 3) := by decide +kernel
theorem kX_invert_d91 : decode prog_1_method_13_code 91 = .ok (.iload 4, 2) := by decide +kernel
theorem kX_invert_d93 : decode prog_1_method_13_code 93 = .ok (.if_icmp .ge 5, 3) := by decide +kernel
theorem kX_invert_d96 : decode prog_1_method_13_code 96 = .ok (.iconst 0, 1) := by decide +kernel
theorem kX_invert_d97 : decode prog_1_method_13_code 97 = .ok (.ireturn, 1) := by decide +kernel
theorem kX_invert_d98 : decode prog_1_method_13_code 98 = .ok (.aload_n 0, 1) := by decide +kernel
theorem kX_invert_d99 : decode prog_1_method_13_code 99 = .ok (.iload 4, 2) := by decide +kernel
theorem kX_invert_d101 : decode prog_1_method_13_code 101 = .ok (.iload 4, 2) := by decide +kernel
theorem kX_invert_d103 : decode prog_1_method_13_code 103 = .ok (.invokevirtual 219, 3) := by decide +kernel
theorem kX_invert_d106 : decode prog_1_method_13_code 106 = .ok (.aload_n 0, 1) := by decide +kernel
theorem kX_invert_d107 : decode prog_1_method_13_code 107 = .ok (.invokevirtual 104, 3) := by decide +kernel
theorem kX_invert_d110 : decode prog_1_method_13_code 110 = .ok (.aload_n 0, 1) := by decide +kernel
theorem kX_invert_d111 : decode prog_1_method_13_code 111 = .ok (.iload_n 1, 1) := by decide +kernel
theorem kX_invert_d112 : decode prog_1_method_13_code 112 = .ok (.invokevirtual 137, 3) := by decide +kernel
theorem kX_invert_d115 : decode prog_1_method_13_code 115 = .ok (.iconst 1, 1) := by decide +kernel
theorem kX_invert_d116 : decode prog_1_method_13_code 116 = .ok (.ireturn, 1) := by decide +kernel
theorem kX_determinant_d0 : decode prog_1_method_14_code 0 = .ok (.aload_n 0, 1) := by decide +kernel
theorem kX_determinant_d1 : decode prog_1_method_14_code 1 = .ok (.iload_n 1, 1) := by decide +kernel
theorem kX_determinant_d2 : decode prog_1_method_14_code 2 = .ok (.invokevirtual 63, 3) := by decide +kernel
theorem kX_determinant_d5 : decode prog_1_method_14_code 5 = .ok (.pop, 1) := by decide +kernel
theorem kX_determinant_d6 : decode prog_1_method_14_code 6 = .ok (.aload_n 0, 1) := by decide +kernel
theorem kX_determinant_d7 : decode prog_1_method_14_code 7 = .ok (.iload_n 2, 1) := by decide +kernel
theorem kX_determinant_d8 : decode prog_1_method_14_code 8 = .ok (.invokevirtual 63, 3) := by decide +kernel
theorem kX_determinant_d11 : decode prog_1_method_14_code 11 = .ok (.astore_n 3, 1) := by decide +kernel
theorem kX_determinant_d12 : decode prog_1_method_14_code 12 = .ok (.aload_n 3, 1) := by decide +kernel
theorem kX_determinant_d13 : decode prog_1_method_14_code 13 = .ok (.getfield 143, 3) := by decide +kernel
theorem kX_determinant_d16 : decode prog_1_method_14_code 16 = .ok (.aload_n 3, 1) := by decide +kernel
theorem kX_determinant_d17 : decode prog_1_method_14_code 17 = .ok (.getfield 146, 3) := by decide +kernel
theorem kX_determinant_d20 : decode prog_1_method_14_code 20 = .ok (.if_icmp .eq 13, 3) := by decide +kernel
theorem kX_determinant_d23 : decode prog_1_method_14_code 23 = .ok (.new 71, 3) := by decide +kernel
theorem kX_determinant_d26 : decode prog_1_method_14_code 26 = .ok (.dup, 1) := by decide +kernel
theorem kX_determinant_d27 : decode prog_1_method_14_code 27 = .ok (.ldc 222, 2) := by decide +kernel
theorem kX_determinant_d29 : decode prog_1_method_14_code 29 = .ok (.invokespecial 75, 3) := by decide +kernel
theorem kX_determinant_d32 : decode prog_1_method_14_code 32 = .ok (.athrow, 1) := by decide +kernel
theorem kX_determinant_d33 : decode prog_1_method_14_code 33 = .ok (.aload_n 0, 1) := by decide +kernel
theorem kX_determinant_d34 : decode prog_1_method_14_code 34 = .ok (.getfield 38, 3) := by decide +kernel
theorem kX_determinant_d37 : decode prog_1_method_14_code 37 = .ok (.aload_n 3, 1) := by decide +kernel
theorem kX_determinant_d38 : decode prog_1_method_14_code 38 = .ok (.iconst 0, 1) := by decide +kernel
theorem kX_determinant_d39 : decode prog_1_method_14_code 39 = .ok (.invokevirtual 183, 3) := by decide +kernel
theorem kX_determinant_d42 : decode prog_1_method_14_code 42 = .ok (.aload_n 0, 1) := by decide +kernel
theorem kX_determinant_d43 : decode prog_1_method_14_code 43 = .ok (.getfield 38, 3) := by decide +kernel
theorem kX_determinant_d46 : decode prog_1_method_14_code 46 = .ok (.invokevirtual 187, 3) := by decide +kernel
theorem kX_determinant_d49 : decode prog_1_method_14_code 49 = .ok (.aload_n 0, 1) := by decide +kernel
theorem kX_determinant_d50 : decode prog_1_method_14_code 50 = .ok (.getfield 38, 3) := by decide +kernel
theorem kX_determinant_d53 : decode prog_1_method_14_code 53 = .ok (.aload_n 3, 1) := by decide +kernel
theorem kX_determinant_d54 : decode prog_1_method_14_code 54 = .ok (.getfield 146, 3) := by decide +kernel
theorem kX_determinant_d57 : decode prog_1_method_14_code 57 = .ok (.invokevirtual 190, 3) := by decide +kernel
theorem kX_determinant_d60 : decode prog_1_method_14_code 60 = .ok (.aload_n 0, 1) := by decide +kernel
theorem kX_determinant_d61 : decode prog_1_method_14_code 61 = .ok (.getfield 52, 3) := by decide +kernel
theorem kX_determinant_d64 : decode prog_1_method_14_code 64 = .ok (.getfield 107, 3) := by decide +kernel
theorem kX_determinant_d67 : decode prog_1_method_14_code 67 = .ok (.invokevirtual 101, 3) := by decide +kernel
theorem kX_determinant_d70 : decode prog_1_method_14_code 70 = .ok (.aload_n 0, 1) := by decide +kernel
theorem kX_determinant_d71 : decode prog_1_method_14_code 71 = .ok (.getfield 52, 3) := by decide +kernel
theorem kX_determinant_d74 : decode prog_1_method_14_code 74 = .ok (.getfield 115, 3) := by decide +kernel
theorem kX_determinant_d77 : decode prog_1_method_14_code 77 = .ok (.invokevirtual 224, 3) := by decide +kernel
theorem kX_determinant_d80 : decode prog_1_method_14_code 80 = .ok (.aload_n 0, 1) := by decide +kernel
theorem kX_determinant_d81 : decode prog_1_method_14_code 81 = .ok (.getfield 38, 3) := by decide +kernel
theorem kX_determinant_d84 : decode prog_1_method_14_code 84 = .ok (.getfield 199, 3) := by decide +kernel
theorem kX_determinant_d87 : decode prog_1_method_14_code 87 = .ok (.aload_n 3, 1) := by decide +kernel
theorem kX_determinant_d88 : decode prog_1_method_14_code 88 = .ok (.getfield 143, 3) := by decide +kernel
theorem kX_determinant_d91 : decode prog_1_method_14_code 91 = .ok (.if_icmp .ne 90, 3) := by decide +kernel
theorem kX_determinant_d94 : decode prog_1_method_14_code 94 = .ok (.aload_n 0, 1) := by decide +kernel
theorem kX_determinant_d95 : decode prog_1_method_14_code 95 = .ok (.getfield 52, 3) := by decide +kernel
theorem kX_determinant_d98 : decode prog_1_method_14_code 98 = .ok (.getfield 107, 3) := by decide +kernel
theorem kX_determinant_d101 : decode prog_1_method_14_code 101 = .ok (.aload_n 0, 1) := by decide +kernel
theorem kX_determinant_d102 : decode prog_1_method_14_code 102 = .ok (.getfield 38, 3) := by decide +kernel
theorem kX_determinant_d105 : decode prog_1_method_14_code 105 = .ok (.getfield 196, 3) := by decide +kernel
theorem kX_determinant_d108 : decode prog_1_method_14_code 108 = .ok (.invokevirtual 165, 3) := by decide +kernel
theorem kX_determinant_d111 : decode prog_1_method_14_code 111 = .ok (.aload_n 0, 1) := by decide +kernel
theorem kX_determinant_d112 : decode prog_1_method_14_code 112 = .ok (.getfield 52, 3) := by decide +kernel
theorem kX_determinant_d115 : decode prog_1_method_14_code 115 = .ok (.getfield 107, 3) := by decide +kernel
theorem kX_determinant_d118 : decode prog_1_method_14_code 118 = .ok (.aload_n 0, 1) := by decide +kernel
theorem kX_determinant_d119 : decode prog_1_method_14_code 119 = .ok (.getfield 38, 3) := by decide +kernel
theorem kX_determinant_d122 : decode prog_1_method_14_code 122 = .ok (.getfield 196, 3) := by decide +kernel
theorem kX_determinant_d125 : decode prog_1_method_14_code 125 = .ok (.getfield 227, 3) := by decide +kernel
theorem kX_determinant_d128 : decode prog_1_method_14_code 128 = .ok (.aload_n 0, 1) := by decide +kernel
theorem kX_determinant_d129 : decode prog_1_method_14_code 129 = .ok (.getfield 38, 3) := by decide +kernel
theorem kX_determinant_d132 : decode prog_1_method_14_code 132 = .ok (.getfield 231, 3) := by decide +kernel
theorem kX_determinant_d135 : decode prog_1_method_14_code 135 = .ok (.if_icmp .eq 7, 3) := by decide +kernel
theorem kX_determinant_d138 : decode prog_1_method_14_code 138 = .ok (.iconst 1, 1) := by decide +kernel
theorem kX_determinant_d139 : decode prog_1_method_14_code 139 = .ok (.goto 4, 3) := by decide +kernel
theorem kX_determinant_d142 : decode prog_1_method_14_code 142 = .ok (.iconst 0, 1) := by decide +kernel
theorem kX_determinant_d143 : decode prog_1_method_14_code 143 = .ok (.putfield 227, 3) := by decide +kernel
theorem kX_determinant_d146 : decode prog_1_method_14_code 146 = .ok (.iconst 0, 1) := by decide +kernel
theorem kX_determinant_d147 : decode prog_1_method_14_code 147 = .ok (.istore 4, 2) := by decide +kernel
theorem kX_determinant_d149 : decode prog_1_method_14_code 149 = .ok (.iload 4, 2) := by decide +kernel
theorem kX_determinant_d151 : decode prog_1_method_14_code 151 = .ok (.aload_n 3, 1) := by decide +kernel
theorem kX_determinant_d152 : decode prog_1_method_14_code 152 = .ok (.getfield 143, 3) := by decide +kernel
theorem kX_determinant_d155 : decode prog_1_method_14_code 155 = .ok (.if_icmp .ge 26, 3) := by decide +kernel
theorem kX_determinant_d158 : decode prog_1_method_14_code 158 = .ok (.aload_n 0, 1) := by decide +kernel
theorem kX_determinant_d159 : decode prog_1_method_14_code 159 = .ok (.getfield 52, 3) := by decide +kernel
theorem kX_determinant_d162 : decode prog_1_method_14_code 162 = .ok (.aload_n 0, 1) := by decide +kernel
theorem kX_determinant_d163 : decode prog_1_method_14_code 163 = .ok (.getfield 38, 3) := by decide +kernel
theorem kX_determinant_d166 : decode prog_1_method_14_code 166 = .ok (.getfield 234, 3) := by decide +kernel
theorem kX_determinant_d169 : decode prog_1_method_14_code 169 = .ok (.iload 4, 2) := by decide +kernel
theorem kX_determinant_d171 : decode prog_1_method_14_code 171 = .ok (.aaload, 1) := by decide +kernel
theorem kX_determinant_d172 : decode prog_1_method_14_code 172 = .ok (.invokevirtual 238, 3) := by decide +kernel
theorem kX_determinant_d175 : decode prog_1_method_14_code 175 = .ok (.iinc 4 1, 3) := by decide +kernel
theorem kX_determinant_d178 : decode prog_1_method_14_code 178 = .ok (.goto (-29), 3) := by decide +kernel
theorem kX_determinant_d181 : decode prog_1_method_14_code 181 = .ok (.aload_n 0, 1) := by decide +kernel
theorem kX_determinant_d182 : decode prog_1_method_14_code 182 = .ok (.getfield 22, 3) := by decide +kernel
theorem kX_determinant_d185 : decode prog_1_method_14_code 185 = .ok (.iconst 1, 1) := by decide +kernel
theorem kX_determinant_d186 : decode prog_1_method_14_code 186 = .ok (.iconst 1, 1) := by decide +kernel
theorem kX_determinant_d187 : decode prog_1_method_14_code 187 = .ok (.invokevirtual 78, 3) := by decide +kernel
theorem kX_determinant_d190 : decode prog_1_method_14_code 190 = .ok (.aload_n 0, 1) := by decide +kernel
theorem kX_determinant_d191 : decode prog_1_method_14_code 191 = .ok (.getfield 22, 3) := by decide +kernel
theorem kX_determinant_d194 : decode prog_1_method_14_code 194 = .ok (.getfield 121, 3) := by decide +kernel
theorem kX_determinant_d197 : decode prog_1_method_14_code 197 = .ok (.aload_n 0, 1) := by decide +kernel
theorem kX_determinant_d198 : decode prog_1_method_14_code 198 = .ok (.getfield 52, 3) := by decide +kernel
theorem kX_determinant_d201 : decode prog_1_method_14_code 201 = .ok (.getfield 115, 3) := by decide +kernel
theorem kX_determinant_d204 : decode prog_1_method_14_code 204 = .ok (.invokevirtual 165, 3) := by decide +kernel
theorem kX_determinant_d207 : decode prog_1_method_14_code 207 = .ok (.aload_n 0, 1) := by decide +kernel
theorem kX_determinant_d208 : decode prog_1_method_14_code 208 = .ok (.getfield 22, 3) := by decide +kernel
theorem kX_determinant_d211 : decode prog_1_method_14_code 211 = .ok (.iconst 0, 1) := by decide +kernel
theorem kX_determinant_d212 : decode prog_1_method_14_code 212 = .ok (.iconst 0, 1) := by decide +kernel
theorem kX_determinant_d213 : decode prog_1_method_14_code 213 = .ok (.invokevirtual 92, 3) := by decide +kernel
theorem kX_determinant_d216 : decode prog_1_method_14_code 216 = .ok (.aload_n 0, 1) := by decide +kernel
theorem kX_determinant_d217 : decode prog_1_method_14_code 217 = .ok (.getfield 52, 3) := by decide +kernel
theorem kX_determinant_d220 : decode prog_1_method_14_code 220 = .ok (.getfield 107, 3) := by decide +kernel
theorem kX_determinant_d223 : decode prog_1_method_14_code 223 = .ok (.invokevirtual 165, 3) := by decide +kernel
theorem kX_determinant_d226 : decode prog_1_method_14_code 226 = .ok (.aload_n 0, 1) := by decide +kernel
theorem kX_determinant_d227 : decode prog_1_method_14_code 227 = .ok (.iload_n 1, 1) := by decide +kernel
theorem kX_determinant_d228 : decode prog_1_method_14_code 228 = .ok (.invokevirtual 137, 3) := by decide +kernel
theorem kX_determinant_d231 : decode prog_1_method_14_code 231 = .ok (.return_, 1) := by decide +kernel
theorem kX_hermite_d0 : decode prog_1_method_15_code 0 = .ok (.aload_n 0, 1) := by decide +kernel
theorem kX_hermite_d1 : decode prog_1_method_15_code 1 = .ok (.iload_n 1, 1) := by decide +kernel
theorem kX_hermite_d2 : decode prog_1_method_15_code 2 = .ok (.invokevirtual 63, 3) := by decide +kernel
theorem kX_hermite_d5 : decode prog_1_method_15_code 5 = .ok (.pop, 1) := by decide +kernel
theorem kX_hermite_d6 : decode prog_1_method_15_code 6 = .ok (.aload_n 0, 1) := by decide +kernel
theorem kX_hermite_d7 : decode prog_1_method_15_code 7 = .ok (.iload_n 2, 1) := by decide +kernel
theorem kX_hermite_d8 : decode prog_1_method_15_code 8 = .ok (.invokevirtual 63, 3) := by decide +kernel
theorem kX_hermite_d11 : decode prog_1_method_15_code 11 = .ok (.astore_n 3, 1) := by decide +kernel
theorem kX_hermite_d12 : decode prog_1_method_15_code 12 = .ok (.aload_n 3, 1) := by decide +kernel
theorem kX_hermite_d13 : decode prog_1_method_15_code 13 = .ok (.invokestatic 241, 3) := by decide +kernel
theorem kX_hermite_d16 : decode prog_1_method_15_code 16 = .ok (.aload_n 0, 1) := by decide +kernel
theorem kX_hermite_d17 : decode prog_1_method_15_code 17 = .ok (.getfield 38, 3) := by decide +kernel
theorem kX_hermite_d20 : decode prog_1_method_15_code 20 = .ok (.aload_n 3, 1) := by decide +kernel
theorem kX_hermite_d21 : decode prog_1_method_15_code 21 = .ok (.iconst 0, 1) := by decide +kernel
theorem kX_hermite_d22 : decode prog_1_method_15_code 22 = .ok (.invokevirtual 183, 3) := by decide +kernel
theorem kX_hermite_d25 : decode prog_1_method_15_code 25 = .ok (.aload_n 0, 1) := by decide +kernel
theorem kX_hermite_d26 : decode prog_1_method_15_code 26 = .ok (.getfield 38, 3) := by decide +kernel
theorem kX_hermite_d29 : decode prog_1_method_15_code 29 = .ok (.invokevirtual 187, 3) := by decide +kernel
theorem kX_hermite_d32 : decode prog_1_method_15_code 32 = .ok (.aload_n 0, 1) := by decide +kernel
theorem kX_hermite_d33 : decode prog_1_method_15_code 33 = .ok (.getfield 38, 3) := by decide +kernel
theorem kX_hermite_d36 : decode prog_1_method_15_code 36 = .ok (.aload_n 3, 1) := by decide +kernel
theorem kX_hermite_d37 : decode prog_1_method_15_code 37 = .ok (.getfield 146, 3) := by decide +kernel
theorem kX_hermite_d40 : decode prog_1_method_15_code 40 = .ok (.invokevirtual 190, 3) := by decide +kernel
theorem kX_hermite_d43 : decode prog_1_method_15_code 43 = .ok (.aload_n 0, 1) := by decide +kernel
theorem kX_hermite_d44 : decode prog_1_method_15_code 44 = .ok (.getfield 38, 3) := by decide +kernel
theorem kX_hermite_d47 : decode prog_1_method_15_code 47 = .ok (.getfield 199, 3) := by decide +kernel
theorem kX_hermite_d50 : decode prog_1_method_15_code 50 = .ok (.istore 4, 2) := by decide +kernel
theorem kX_hermite_d52 : decode prog_1_method_15_code 52 = .ok (.aload_n 0, 1) := by decide +kernel
theorem kX_hermite_d53 : decode prog_1_method_15_code 53 = .ok (.getfield 45, 3) := by decide +kernel
theorem kX_hermite_d56 : decode prog_1_method_15_code 56 = .ok (.aload_n 3, 1) := by decide +kernel
theorem kX_hermite_d57 : decode prog_1_method_15_code 57 = .ok (.aload_n 0, 1) := by decide +kernel
theorem kX_hermite_d58 : decode prog_1_method_15_code 58 = .ok (.getfield 38, 3) := by decide +kernel
theorem kX_hermite_d61 : decode prog_1_method_15_code 61 = .ok (.getfield 202, 3) := by decide +kernel
theorem kX_hermite_d64 : decode prog_1_method_15_code 64 = .ok (.iload 4, 2) := by decide +kernel
theorem kX_hermite_d66 : decode prog_1_method_15_code 66 = .ok (.aload_n 0, 1) := by decide +kernel
theorem kX_hermite_d67 : decode prog_1_method_15_code 67 = .ok (.getfield 38, 3) := by decide +kernel
theorem kX_hermite_d70 : decode prog_1_method_15_code 70 = .ok (.getfield 196, 3) := by decide +kernel
theorem kX_hermite_d73 : decode prog_1_method_15_code 73 = .ok (.invokevirtual 244, 3) := by decide +kernel
theorem kX_hermite_d76 : decode prog_1_method_15_code 76 = .ok (.aload_n 0, 1) := by decide +kernel
theorem kX_hermite_d77 : decode prog_1_method_15_code 77 = .ok (.getfield 45, 3) := by decide +kernel
theorem kX_hermite_d80 : decode prog_1_method_15_code 80 = .ok (.invokevirtual 247, 3) := by decide +kernel
theorem kX_hermite_d83 : decode prog_1_method_15_code 83 = .ok (.aload_n 0, 1) := by decide +kernel
theorem kX_hermite_d84 : decode prog_1_method_15_code 84 = .ok (.getfield 22, 3) := by decide +kernel
theorem kX_hermite_d87 : decode prog_1_method_15_code 87 = .ok (.aload_n 3, 1) := by decide +kernel
theorem kX_hermite_d88 : decode prog_1_method_15_code 88 = .ok (.getfield 143, 3) := by decide +kernel
theorem kX_hermite_d91 : decode prog_1_method_15_code 91 = .ok (.aload_n 3, 1) := by decide +kernel
theorem kX_hermite_d92 : decode prog_1_method_15_code 92 = .ok (.getfield 146, 3) := by decide +kernel
theorem kX_hermite_d95 : decode prog_1_method_15_code 95 = .ok (.invokevirtual 78, 3) := by decide +kernel
theorem kX_hermite_d98 : decode prog_1_method_15_code 98 = .ok (.iconst 0, 1) := by decide +kernel
theorem kX_hermite_d99 : decode prog_1_method_15_code 99 = .ok (.istore 5, 2) := by decide +kernel
theorem kX_hermite_d101 : decode prog_1_method_15_code 101 = .ok (.iload 5, 2) := by decide +kernel
theorem kX_hermite_d103 : decode prog_1_method_15_code 103 = .ok (.iload 4, 2) := by decide +kernel
theorem kX_hermite_d105 : decode prog_1_method_15_code 105 = .ok (.if_icmp .ge 59, 3) := by decide +kernel
theorem kX_hermite_d108 : decode prog_1_method_15_code 108 = .ok (.iload 5, 2) := by decide +kernel
theorem kX_hermite_d110 : decode prog_1_method_15_code 110 = .ok (.istore 6, 2) := by decide +kernel
theorem kX_hermite_d112 : decode prog_1_method_15_code 112 = .ok (.iload 6, 2) := by decide +kernel
theorem kX_hermite_d114 : decode prog_1_method_15_code 114 = .ok (.iload 4, 2) := by decide +kernel
theorem kX_hermite_d116 : decode prog_1_method_15_code 116 = .ok (.if_icmp .ge 42, 3) := by decide +kernel
theorem kX_hermite_d119 : decode prog_1_method_15_code 119 = .ok (.aload_n 0, 1) := by decide +kernel
theorem kX_hermite_d120 : decode prog_1_method_15_code 120 = .ok (.getfield 22, 3) := by decide +kernel
theorem kX_hermite_d123 : decode prog_1_method_15_code 123 = .ok (.iload 5, 2) := by decide +kernel
theorem kX_hermite_d125 : decode prog_1_method_15_code 125 = .ok (.aload_n 0, 1) := by decide +kernel
theorem kX_hermite_d126 : decode prog_1_method_15_code 126 = .ok (.getfield 38, 3) := by decide +kernel
theorem kX_hermite_d129 : decode prog_1_method_15_code 129 = .ok (.getfield 202, 3) := by decide +kernel
theorem kX_hermite_d132 : decode prog_1_method_15_code 132 = .ok (.iload 6, 2) := by decide +kernel
theorem kX_hermite_d134 : decode prog_1_method_15_code 134 = .ok (.iaload, 1) := by decide +kernel
theorem kX_hermite_d135 : decode prog_1_method_15_code 135 = .ok (.invokevirtual 92, 3) := by decide +kernel
theorem kX_hermite_d138 : decode prog_1_method_15_code 138 = .ok (.aload_n 0, 1) := by decide +kernel
theorem kX_hermite_d139 : decode prog_1_method_15_code 139 = .ok (.getfield 45, 3) := by decide +kernel
theorem kX_hermite_d142 : decode prog_1_method_15_code 142 = .ok (.iload 5, 2) := by decide +kernel
theorem kX_hermite_d144 : decode prog_1_method_15_code 144 = .ok (.iload 6, 2) := by decide +kernel
theorem kX_hermite_d146 : decode prog_1_method_15_code 146 = .ok (.invokevirtual 250, 3) := by decide +kernel
theorem kX_hermite_d149 : decode prog_1_method_15_code 149 = .ok (.invokevirtual 165, 3) := by decide +kernel
theorem kX_hermite_d152 : decode prog_1_method_15_code 152 = .ok (.iinc 6 1, 3) := by decide +kernel
theorem kX_hermite_d155 : decode prog_1_method_15_code 155 = .ok (.goto (-43), 3) := by decide +kernel
theorem kX_hermite_d158 : decode prog_1_method_15_code 158 = .ok (.iinc 5 1, 3) := by decide +kernel
theorem kX_hermite_d161 : decode prog_1_method_15_code 161 = .ok (.goto (-60), 3) := by decide +kernel
theorem kX_hermite_d164 : decode prog_1_method_15_code 164 = .ok (.iload 4, 2) := by decide +kernel
theorem kX_hermite_d166 : decode prog_1_method_15_code 166 = .ok (.aload_n 3, 1) := by decide +kernel
theorem kX_hermite_d167 : decode prog_1_method_15_code 167 = .ok (.getfield 146, 3) := by decide +kernel
theorem kX_hermite_d170 : decode prog_1_method_15_code 170 = .ok (.if_icmp .ge 15, 3) := by decide +kernel
theorem kX_hermite_d173 : decode prog_1_method_15_code 173 = .ok (.aload_n 0, 1) := by decide +kernel
theorem kX_hermite_d174 : decode prog_1_method_15_code 174 = .ok (.getfield 38, 3) := by decide +kernel
theorem kX_hermite_d177 : decode prog_1_method_15_code 177 = .ok (.iconst 0, 1) := by decide +kernel
theorem kX_hermite_d178 : decode prog_1_method_15_code 178 = .ok (.invokevirtual 193, 3) := by decide +kernel
theorem kX_hermite_d181 : decode prog_1_method_15_code 181 = .ok (.aload_n 0, 1) := by decide +kernel
theorem kX_hermite_d182 : decode prog_1_method_15_code 182 = .ok (.invokevirtual 251, 3) := by decide +kernel
theorem kX_hermite_d185 : decode prog_1_method_15_code 185 = .ok (.aload_n 0, 1) := by decide +kernel
theorem kX_hermite_d186 : decode prog_1_method_15_code 186 = .ok (.iload_n 1, 1) := by decide +kernel
theorem kX_hermite_d187 : decode prog_1_method_15_code 187 = .ok (.invokevirtual 137, 3) := by decide +kernel
theorem kX_hermite_d190 : decode prog_1_method_15_code 190 = .ok (.iload 4, 2) := by decide +kernel
theorem kX_hermite_d192 : decode prog_1_method_15_code 192 = .ok (.ireturn, 1) := by decide +kernel
theorem kX_needWhole_d0 : decode prog_1_method_25_code 0 = .ok (.aload_n 0, 1) := by decide +kernel
theorem kX_needWhole_d1 : decode prog_1_method_25_code 1 = .ok (.getfield 121, 3) := by decide +kernel
theorem kX_needWhole_d4 : decode prog_1_method_25_code 4 = .ok (.invokevirtual 285, 3) := by decide +kernel
theorem kX_needWhole_d7 : decode prog_1_method_25_code 7 = .ok (.ifCond .ne 14, 3) := by decide +kernel
theorem kX_needWhole_d10 : decode prog_1_method_25_code 10 = .ok (.new 71, 3) := by decide +kernel
theorem kX_needWhole_d13 : decode prog_1_method_25_code 13 = .ok (.dup, 1) := by decide +kernel
theorem kX_needWhole_d14 : decode prog_1_method_25_code 14 = .ok (.ldc_w 289, 3) := by decide +kernel
theorem kX_needWhole_d17 : decode prog_1_method_25_code 17 = .ok (.invokespecial 75, 3) := by decide +kernel
theorem kX_needWhole_d20 : decode prog_1_method_25_code 20 = .ok (.athrow, 1) := by decide +kernel
theorem kX_needWhole_d21 : decode prog_1_method_25_code 21 = .ok (.return_, 1) := by decide +kernel
theorem kX_draftFreeColumns_d0 : decode prog_1_method_31_code 0 = .ok (.iconst 0, 1) := by decide +kernel
theorem kX_draftFreeColumns_d1 : decode prog_1_method_31_code 1 = .ok (.istore_n 1, 1) := by decide +kernel
theorem kX_draftFreeColumns_d2 : decode prog_1_method_31_code 2 = .ok (.iload_n 1, 1) := by decide +kernel
theorem kX_draftFreeColumns_d3 : decode prog_1_method_31_code 3 = .ok (.aload_n 0, 1) := by decide +kernel
theorem kX_draftFreeColumns_d4 : decode prog_1_method_31_code 4 = .ok (.getfield 22, 3) := by decide +kernel
theorem kX_draftFreeColumns_d7 : decode prog_1_method_31_code 7 = .ok (.getfield 146, 3) := by decide +kernel
theorem kX_draftFreeColumns_d10 : decode prog_1_method_31_code 10 = .ok (.if_icmp .ge 168, 3) := by decide +kernel
theorem kX_draftFreeColumns_d13 : decode prog_1_method_31_code 13 = .ok (.iconst 0, 1) := by decide +kernel
theorem kX_draftFreeColumns_d14 : decode prog_1_method_31_code 14 = .ok (.istore_n 2, 1) := by decide +kernel
theorem kX_draftFreeColumns_d15 : decode prog_1_method_31_code 15 = .ok (.iload_n 2, 1) := by decide +kernel
theorem kX_draftFreeColumns_d16 : decode prog_1_method_31_code 16 = .ok (.aload_n 0, 1) := by decide +kernel
theorem kX_draftFreeColumns_d17 : decode prog_1_method_31_code 17 = .ok (.getfield 38, 3) := by decide +kernel
theorem kX_draftFreeColumns_d20 : decode prog_1_method_31_code 20 = .ok (.getfield 199, 3) := by decide +kernel
theorem kX_draftFreeColumns_d23 : decode prog_1_method_31_code 23 = .ok (.if_icmp .ge 149, 3) := by decide +kernel
theorem kX_draftFreeColumns_d26 : decode prog_1_method_31_code 26 = .ok (.aload_n 0, 1) := by decide +kernel
theorem kX_draftFreeColumns_d27 : decode prog_1_method_31_code 27 = .ok (.getfield 38, 3) := by decide +kernel
theorem kX_draftFreeColumns_d30 : decode prog_1_method_31_code 30 = .ok (.getfield 205, 3) := by decide +kernel
theorem kX_draftFreeColumns_d33 : decode prog_1_method_31_code 33 = .ok (.iload_n 1, 1) := by decide +kernel
theorem kX_draftFreeColumns_d34 : decode prog_1_method_31_code 34 = .ok (.baload, 1) := by decide +kernel
theorem kX_draftFreeColumns_d35 : decode prog_1_method_31_code 35 = .ok (.ifCond .ne 137, 3) := by decide +kernel
theorem kX_draftFreeColumns_d38 : decode prog_1_method_31_code 38 = .ok (.aload_n 0, 1) := by decide +kernel
theorem kX_draftFreeColumns_d39 : decode prog_1_method_31_code 39 = .ok (.getfield 29, 3) := by decide +kernel
theorem kX_draftFreeColumns_d42 : decode prog_1_method_31_code 42 = .ok (.getfield 162, 3) := by decide +kernel
theorem kX_draftFreeColumns_d45 : decode prog_1_method_31_code 45 = .ok (.invokevirtual 101, 3) := by decide +kernel
theorem kX_draftFreeColumns_d48 : decode prog_1_method_31_code 48 = .ok (.iload_n 2, 1) := by decide +kernel
theorem kX_draftFreeColumns_d49 : decode prog_1_method_31_code 49 = .ok (.istore_n 3, 1) := by decide +kernel
theorem kX_draftFreeColumns_d50 : decode prog_1_method_31_code 50 = .ok (.iload_n 3, 1) := by decide +kernel
theorem kX_draftFreeColumns_d51 : decode prog_1_method_31_code 51 = .ok (.aload_n 0, 1) := by decide +kernel
theorem kX_draftFreeColumns_d52 : decode prog_1_method_31_code 52 = .ok (.getfield 38, 3) := by decide +kernel
theorem kX_draftFreeColumns_d55 : decode prog_1_method_31_code 55 = .ok (.getfield 199, 3) := by decide +kernel
theorem kX_draftFreeColumns_d58 : decode prog_1_method_31_code 58 = .ok (.if_icmp .ge 62, 3) := by decide +kernel
theorem kX_draftFreeColumns_d61 : decode prog_1_method_31_code 61 = .ok (.aload_n 0, 1) := by decide +kernel
theorem kX_draftFreeColumns_d62 : decode prog_1_method_31_code 62 = .ok (.getfield 29, 3) := by decide +kernel
theorem kX_draftFreeColumns_d65 : decode prog_1_method_31_code 65 = .ok (.getfield 291, 3) := by decide +kernel
theorem kX_draftFreeColumns_d68 : decode prog_1_method_31_code 68 = .ok (.aload_n 0, 1) := by decide +kernel
theorem kX_draftFreeColumns_d69 : decode prog_1_method_31_code 69 = .ok (.getfield 45, 3) := by decide +kernel
theorem kX_draftFreeColumns_d72 : decode prog_1_method_31_code 72 = .ok (.iload_n 2, 1) := by decide +kernel
theorem kX_draftFreeColumns_d73 : decode prog_1_method_31_code 73 = .ok (.iload_n 3, 1) := by decide +kernel
theorem kX_draftFreeColumns_d74 : decode prog_1_method_31_code 74 = .ok (.invokevirtual 250, 3) := by decide +kernel
theorem kX_draftFreeColumns_d77 : decode prog_1_method_31_code 77 = .ok (.aload_n 0, 1) := by decide +kernel
theorem kX_draftFreeColumns_d78 : decode prog_1_method_31_code 78 = .ok (.getfield 38, 3) := by decide +kernel
theorem kX_draftFreeColumns_d81 : decode prog_1_method_31_code 81 = .ok (.iload_n 3, 1) := by decide +kernel
theorem kX_draftFreeColumns_d82 : decode prog_1_method_31_code 82 = .ok (.iload_n 1, 1) := by decide +kernel
theorem kX_draftFreeColumns_d83 : decode prog_1_method_31_code 83 = .ok (.invokevirtual 209, 3) := by decide +kernel
theorem kX_draftFreeColumns_d86 : decode prog_1_method_31_code 86 = .ok (.invokevirtual 134, 3) := by decide +kernel
theorem kX_draftFreeColumns_d89 : decode prog_1_method_31_code 89 = .ok (.aload_n 0, 1) := by decide +kernel
theorem kX_draftFreeColumns_d90 : decode prog_1_method_31_code 90 = .ok (.getfield 29, 3) := by decide +kernel
theorem kX_draftFreeColumns_d93 : decode prog_1_method_31_code 93 = .ok (.getfield 162, 3) := by decide +kernel
theorem kX_draftFreeColumns_d96 : decode prog_1_method_31_code 96 = .ok (.aload_n 0, 1) := by decide +kernel
theorem kX_draftFreeColumns_d97 : decode prog_1_method_31_code 97 = .ok (.getfield 29, 3) := by decide +kernel
theorem kX_draftFreeColumns_d100 : decode prog_1_method_31_code 100 = .ok (.getfield 162, 3) := by decide +kernel
theorem kX_draftFreeColumns_d103 : decode prog_1_method_31_code 103 = .ok (.aload_n 0, 1) := by decide +kernel
theorem kX_draftFreeColumns_d104 : decode prog_1_method_31_code 104 = .ok (.getfield 29, 3) := by decide +kernel
theorem kX_draftFreeColumns_d107 : decode prog_1_method_31_code 107 = .ok (.getfield 291, 3) := by decide +kernel
theorem kX_draftFreeColumns_d110 : decode prog_1_method_31_code 110 = .ok (.iconst 0, 1) := by decide +kernel
theorem kX_draftFreeColumns_d111 : decode prog_1_method_31_code 111 = .ok (.invokevirtual 294, 3) := by decide +kernel
theorem kX_draftFreeColumns_d114 : decode prog_1_method_31_code 114 = .ok (.iinc 3 1, 3) := by decide +kernel
theorem kX_draftFreeColumns_d117 : decode prog_1_method_31_code 117 = .ok (.goto (-67), 3) := by decide +kernel
theorem kX_draftFreeColumns_d120 : decode prog_1_method_31_code 120 = .ok (.aload_n 0, 1) := by decide +kernel
theorem kX_draftFreeColumns_d121 : decode prog_1_method_31_code 121 = .ok (.getfield 29, 3) := by decide +kernel
theorem kX_draftFreeColumns_d124 : decode prog_1_method_31_code 124 = .ok (.getfield 300, 3) := by decide +kernel
theorem kX_draftFreeColumns_d127 : decode prog_1_method_31_code 127 = .ok (.aload_n 0, 1) := by decide +kernel
theorem kX_draftFreeColumns_d128 : decode prog_1_method_31_code 128 = .ok (.getfield 29, 3) := by decide +kernel
theorem kX_draftFreeColumns_d131 : decode prog_1_method_31_code 131 = .ok (.getfield 162, 3) := by decide +kernel
theorem kX_draftFreeColumns_d134 : decode prog_1_method_31_code 134 = .ok (.aload_n 0, 1) := by decide +kernel
theorem kX_draftFreeColumns_d135 : decode prog_1_method_31_code 135 = .ok (.getfield 38, 3) := by decide +kernel
theorem kX_draftFreeColumns_d138 : decode prog_1_method_31_code 138 = .ok (.getfield 196, 3) := by decide +kernel
theorem kX_draftFreeColumns_d141 : decode prog_1_method_31_code 141 = .ok (.invokevirtual 304, 3) := by decide +kernel
theorem kX_draftFreeColumns_d144 : decode prog_1_method_31_code 144 = .ok (.aload_n 0, 1) := by decide +kernel
theorem kX_draftFreeColumns_d145 : decode prog_1_method_31_code 145 = .ok (.getfield 22, 3) := by decide +kernel
theorem kX_draftFreeColumns_d148 : decode prog_1_method_31_code 148 = .ok (.iload_n 2, 1) := by decide +kernel
theorem kX_draftFreeColumns_d149 : decode prog_1_method_31_code 149 = .ok (.iload_n 1, 1) := by decide +kernel
theorem kX_draftFreeColumns_d150 : decode prog_1_method_31_code 150 = .ok (.invokevirtual 92, 3) := by decide +kernel
theorem kX_draftFreeColumns_d153 : decode prog_1_method_31_code 153 = .ok (.aload_n 0, 1) := by decide +kernel
theorem kX_draftFreeColumns_d154 : decode prog_1_method_31_code 154 = .ok (.getfield 29, 3) := by decide +kernel
theorem kX_draftFreeColumns_d157 : decode prog_1_method_31_code 157 = .ok (.getfield 300, 3) := by decide +kernel
theorem kX_draftFreeColumns_d160 : decode prog_1_method_31_code 160 = .ok (.getfield 309, 3) := by decide +kernel
theorem kX_draftFreeColumns_d163 : decode prog_1_method_31_code 163 = .ok (.invokevirtual 165, 3) := by decide +kernel
theorem kX_draftFreeColumns_d166 : decode prog_1_method_31_code 166 = .ok (.iinc 2 1, 3) := by decide +kernel
theorem kX_draftFreeColumns_d169 : decode prog_1_method_31_code 169 = .ok (.goto (-154), 3) := by decide +kernel
theorem kX_draftFreeColumns_d172 : decode prog_1_method_31_code 172 = .ok (.iinc 1 1, 3) := by decide +kernel
theorem kX_draftFreeColumns_d175 : decode prog_1_method_31_code 175 = .ok (.goto (-173), 3) := by decide +kernel
theorem kX_draftFreeColumns_d178 : decode prog_1_method_31_code 178 = .ok (.return_, 1) := by decide +kernel
theorem kX_smith_d0 : decode prog_1_method_16_code 0 = .ok (.aload_n 0, 1) := by decide +kernel
theorem kX_smith_d1 : decode prog_1_method_16_code 1 = .ok (.iload_n 1, 1) := by decide +kernel
theorem kX_smith_d2 : decode prog_1_method_16_code 2 = .ok (.invokevirtual 63, 3) := by decide +kernel
theorem kX_smith_d5 : decode prog_1_method_16_code 5 = .ok (.pop, 1) := by decide +kernel
theorem kX_smith_d6 : decode prog_1_method_16_code 6 = .ok (.aload_n 0, 1) := by decide +kernel
theorem kX_smith_d7 : decode prog_1_method_16_code 7 = .ok (.iload_n 2, 1) := by decide +kernel
theorem kX_smith_d8 : decode prog_1_method_16_code 8 = .ok (.invokevirtual 63, 3) := by decide +kernel
theorem kX_smith_d11 : decode prog_1_method_16_code 11 = .ok (.astore_n 3, 1) := by decide +kernel
theorem kX_smith_d12 : decode prog_1_method_16_code 12 = .ok (.aload_n 3, 1) := by decide +kernel
theorem kX_smith_d13 : decode prog_1_method_16_code 13 = .ok (.invokestatic 241, 3) := by decide +kernel
theorem kX_smith_d16 : decode prog_1_method_16_code 16 = .ok (.aload_n 0, 1) := by decide +kernel
theorem kX_smith_d17 : decode prog_1_method_16_code 17 = .ok (.getfield 38, 3) := by decide +kernel
theorem kX_smith_d20 : decode prog_1_method_16_code 20 = .ok (.aload_n 3, 1) := by decide +kernel
theorem kX_smith_d21 : decode prog_1_method_16_code 21 = .ok (.iconst 0, 1) := by decide +kernel
theorem kX_smith_d22 : decode prog_1_method_16_code 22 = .ok (.invokevirtual 183, 3) := by decide +kernel
theorem kX_smith_d25 : decode prog_1_method_16_code 25 = .ok (.aload_n 0, 1) := by decide +kernel
theorem kX_smith_d26 : decode prog_1_method_16_code 26 = .ok (.getfield 38, 3) := by decide +kernel
theorem kX_smith_d29 : decode prog_1_method_16_code 29 = .ok (.invokevirtual 187, 3) := by decide +kernel
theorem kX_smith_d32 : decode prog_1_method_16_code 32 = .ok (.aload_n 0, 1) := by decide +kernel
theorem kX_smith_d33 : decode prog_1_method_16_code 33 = .ok (.getfield 38, 3) := by decide +kernel
theorem kX_smith_d36 : decode prog_1_method_16_code 36 = .ok (.aload_n 3, 1) := by decide +kernel
theorem kX_smith_d37 : decode prog_1_method_16_code 37 = .ok (.getfield 146, 3) := by decide +kernel
theorem kX_smith_d40 : decode prog_1_method_16_code 40 = .ok (.invokevirtual 190, 3) := by decide +kernel
theorem kX_smith_d43 : decode prog_1_method_16_code 43 = .ok (.aload_n 0, 1) := by decide +kernel
theorem kX_smith_d44 : decode prog_1_method_16_code 44 = .ok (.getfield 38, 3) := by decide +kernel
theorem kX_smith_d47 : decode prog_1_method_16_code 47 = .ok (.getfield 199, 3) := by decide +kernel
theorem kX_smith_d50 : decode prog_1_method_16_code 50 = .ok (.istore 4, 2) := by decide +kernel
theorem kX_smith_d52 : decode prog_1_method_16_code 52 = .ok (.aload_n 0, 1) := by decide +kernel
theorem kX_smith_d53 : decode prog_1_method_16_code 53 = .ok (.getfield 45, 3) := by decide +kernel
theorem kX_smith_d56 : decode prog_1_method_16_code 56 = .ok (.aload_n 3, 1) := by decide +kernel
theorem kX_smith_d57 : decode prog_1_method_16_code 57 = .ok (.aload_n 0, 1) := by decide +kernel
theorem kX_smith_d58 : decode prog_1_method_16_code 58 = .ok (.getfield 15, 3) := by decide +kernel
theorem kX_smith_d61 : decode prog_1_method_16_code 61 = .ok (.aload_n 3, 1) := by decide +kernel
theorem kX_smith_d62 : decode prog_1_method_16_code 62 = .ok (.getfield 146, 3) := by decide +kernel
theorem kX_smith_d65 : decode prog_1_method_16_code 65 = .ok (.aload_n 0, 1) := by decide +kernel
theorem kX_smith_d66 : decode prog_1_method_16_code 66 = .ok (.getfield 38, 3) := by decide +kernel
theorem kX_smith_d69 : decode prog_1_method_16_code 69 = .ok (.getfield 196, 3) := by decide +kernel
theorem kX_smith_d72 : decode prog_1_method_16_code 72 = .ok (.invokevirtual 244, 3) := by decide +kernel
theorem kX_smith_d75 : decode prog_1_method_16_code 75 = .ok (.aload_n 0, 1) := by decide +kernel
theorem kX_smith_d76 : decode prog_1_method_16_code 76 = .ok (.getfield 22, 3) := by decide +kernel
theorem kX_smith_d79 : decode prog_1_method_16_code 79 = .ok (.aload_n 3, 1) := by decide +kernel
theorem kX_smith_d80 : decode prog_1_method_16_code 80 = .ok (.getfield 143, 3) := by decide +kernel
theorem kX_smith_d83 : decode prog_1_method_16_code 83 = .ok (.aload_n 3, 1) := by decide +kernel
theorem kX_smith_d84 : decode prog_1_method_16_code 84 = .ok (.getfield 146, 3) := by decide +kernel
theorem kX_smith_d87 : decode prog_1_method_16_code 87 = .ok (.invokevirtual 78, 3) := by decide +kernel
theorem kX_smith_d90 : decode prog_1_method_16_code 90 = .ok (.iconst 0, 1) := by decide +kernel
theorem kX_smith_d91 : decode prog_1_method_16_code 91 = .ok (.istore 5, 2) := by decide +kernel
theorem kX_smith_d93 : decode prog_1_method_16_code 93 = .ok (.iload 5, 2) := by decide +kernel
theorem kX_smith_d95 : decode prog_1_method_16_code 95 = .ok (.iload 4, 2) := by decide +kernel
theorem kX_smith_d97 : decode prog_1_method_16_code 97 = .ok (.if_icmp .ge 52, 3) := by decide +kernel
theorem kX_smith_d100 : decode prog_1_method_16_code 100 = .ok (.aload_n 0, 1) := by decide +kernel
theorem kX_smith_d101 : decode prog_1_method_16_code 101 = .ok (.getfield 45, 3) := by decide +kernel
theorem kX_smith_d104 : decode prog_1_method_16_code 104 = .ok (.iload 5, 2) := by decide +kernel
theorem kX_smith_d106 : decode prog_1_method_16_code 106 = .ok (.invokevirtual 254, 3) := by decide +kernel
theorem kX_smith_d109 : decode prog_1_method_16_code 109 = .ok (.aload_n 0, 1) := by decide +kernel
theorem kX_smith_d110 : decode prog_1_method_16_code 110 = .ok (.getfield 22, 3) := by decide +kernel
theorem kX_smith_d113 : decode prog_1_method_16_code 113 = .ok (.iload 5, 2) := by decide +kernel
theorem kX_smith_d115 : decode prog_1_method_16_code 115 = .ok (.iload 5, 2) := by decide +kernel
theorem kX_smith_d117 : decode prog_1_method_16_code 117 = .ok (.invokevirtual 92, 3) := by decide +kernel
theorem kX_smith_d120 : decode prog_1_method_16_code 120 = .ok (.aload_n 0, 1) := by decide +kernel
theorem kX_smith_d121 : decode prog_1_method_16_code 121 = .ok (.getfield 45, 3) := by decide +kernel
theorem kX_smith_d124 : decode prog_1_method_16_code 124 = .ok (.iload 5, 2) := by decide +kernel
theorem kX_smith_d126 : decode prog_1_method_16_code 126 = .ok (.iload 5, 2) := by decide +kernel
theorem kX_smith_d128 : decode prog_1_method_16_code 128 = .ok (.invokevirtual 250, 3) := by decide +kernel
theorem kX_smith_d131 : decode prog_1_method_16_code 131 = .ok (.invokevirtual 165, 3) := by decide +kernel
theorem kX_smith_d134 : decode prog_1_method_16_code 134 = .ok (.aload_n 0, 1) := by decide +kernel
theorem kX_smith_d135 : decode prog_1_method_16_code 135 = .ok (.getfield 45, 3) := by decide +kernel
theorem kX_smith_d138 : decode prog_1_method_16_code 138 = .ok (.iload 5, 2) := by decide +kernel
theorem kX_smith_d140 : decode prog_1_method_16_code 140 = .ok (.invokevirtual 257, 3) := by decide +kernel
theorem kX_smith_d143 : decode prog_1_method_16_code 143 = .ok (.iinc 5 1, 3) := by decide +kernel
theorem kX_smith_d146 : decode prog_1_method_16_code 146 = .ok (.goto (-53), 3) := by decide +kernel
theorem kX_smith_d149 : decode prog_1_method_16_code 149 = .ok (.aload_n 0, 1) := by decide +kernel
theorem kX_smith_d150 : decode prog_1_method_16_code 150 = .ok (.iload_n 1, 1) := by decide +kernel
theorem kX_smith_d151 : decode prog_1_method_16_code 151 = .ok (.invokevirtual 137, 3) := by decide +kernel
theorem kX_smith_d154 : decode prog_1_method_16_code 154 = .ok (.iload 4, 2) := by decide +kernel
theorem kX_smith_d156 : decode prog_1_method_16_code 156 = .ok (.ireturn, 1) := by decide +kernel
theorem kX_size_d0 : decode prog_1_method_17_code 0 = .ok (.aload_n 0, 1) := by decide +kernel
theorem kX_size_d1 : decode prog_1_method_17_code 1 = .ok (.iload_n 1, 1) := by decide +kernel
theorem kX_size_d2 : decode prog_1_method_17_code 2 = .ok (.invokevirtual 63, 3) := by decide +kernel
theorem kX_size_d5 : decode prog_1_method_17_code 5 = .ok (.astore_n 3, 1) := by decide +kernel
theorem kX_size_d6 : decode prog_1_method_17_code 6 = .ok (.iload_n 2, 1) := by decide +kernel
theorem kX_size_d7 : decode prog_1_method_17_code 7 = .ok (.ifCond .eq 10, 3) := by decide +kernel
theorem kX_size_d10 : decode prog_1_method_17_code 10 = .ok (.aload_n 3, 1) := by decide +kernel
theorem kX_size_d11 : decode prog_1_method_17_code 11 = .ok (.getfield 146, 3) := by decide +kernel
theorem kX_size_d14 : decode prog_1_method_17_code 14 = .ok (.goto 7, 3) := by decide +kernel
theorem kX_size_d17 : decode prog_1_method_17_code 17 = .ok (.aload_n 3, 1) := by decide +kernel
theorem kX_size_d18 : decode prog_1_method_17_code 18 = .ok (.getfield 143, 3) := by decide +kernel
theorem kX_size_d21 : decode prog_1_method_17_code 21 = .ok (.ireturn, 1) := by decide +kernel
theorem kX_sign_d0 : decode prog_1_method_18_code 0 = .ok (.aload_n 0, 1) := by decide +kernel
theorem kX_sign_d1 : decode prog_1_method_18_code 1 = .ok (.iload_n 1, 1) := by decide +kernel
theorem kX_sign_d2 : decode prog_1_method_18_code 2 = .ok (.invokevirtual 63, 3) := by decide +kernel
theorem kX_sign_d5 : decode prog_1_method_18_code 5 = .ok (.astore 4, 2) := by decide +kernel
theorem kX_sign_d7 : decode prog_1_method_18_code 7 = .ok (.aload 4, 2) := by decide +kernel
theorem kX_sign_d9 : decode prog_1_method_18_code 9 = .ok (.iload_n 2, 1) := by decide +kernel
theorem kX_sign_d10 : decode prog_1_method_18_code 10 = .ok (.iload_n 3, 1) := by decide +kernel
theorem kX_sign_d11 : decode prog_1_method_18_code 11 = .ok (.invokestatic 82, 3) := by decide +kernel
theorem kX_sign_d14 : decode prog_1_method_18_code 14 = .ok (.aload 4, 2) := by decide +kernel
theorem kX_sign_d16 : decode prog_1_method_18_code 16 = .ok (.iload_n 2, 1) := by decide +kernel
theorem kX_sign_d17 : decode prog_1_method_18_code 17 = .ok (.iload_n 3, 1) := by decide +kernel
theorem kX_sign_d18 : decode prog_1_method_18_code 18 = .ok (.invokevirtual 92, 3) := by decide +kernel
theorem kX_sign_d21 : decode prog_1_method_18_code 21 = .ok (.astore 5, 2) := by decide +kernel
theorem kX_sign_d23 : decode prog_1_method_18_code 23 = .ok (.aload 5, 2) := by decide +kernel
theorem kX_sign_d25 : decode prog_1_method_18_code 25 = .ok (.getfield 96, 3) := by decide +kernel
theorem kX_sign_d28 : decode prog_1_method_18_code 28 = .ok (.ifCond .ne 5, 3) := by decide +kernel
theorem kX_sign_d31 : decode prog_1_method_18_code 31 = .ok (.iconst 0, 1) := by decide +kernel
theorem kX_sign_d32 : decode prog_1_method_18_code 32 = .ok (.ireturn, 1) := by decide +kernel
theorem kX_sign_d33 : decode prog_1_method_18_code 33 = .ok (.aload 5, 2) := by decide +kernel
theorem kX_sign_d35 : decode prog_1_method_18_code 35 = .ok (.getfield 227, 3) := by decide +kernel
theorem kX_sign_d38 : decode prog_1_method_18_code 38 = .ok (.ifCond .eq 7, 3) := by decide +kernel
theorem kX_sign_d41 : decode prog_1_method_18_code 41 = .ok (.iconst (-1), 1) := by decide +kernel
theorem kX_sign_d42 : decode prog_1_method_18_code 42 = .ok (.goto 4, 3) := by decide +kernel
theorem kX_sign_d45 : decode prog_1_method_18_code 45 = .ok (.iconst 1, 1) := by decide +kernel
theorem kX_sign_d46 : decode prog_1_method_18_code 46 = .ok (.ireturn, 1) := by decide +kernel
theorem kX_length_d0 : decode prog_1_method_19_code 0 = .ok (.aload_n 0, 1) := by decide +kernel
theorem kX_length_d1 : decode prog_1_method_19_code 1 = .ok (.iload_n 1, 1) := by decide +kernel
theorem kX_length_d2 : decode prog_1_method_19_code 2 = .ok (.iload_n 2, 1) := by decide +kernel
theorem kX_length_d3 : decode prog_1_method_19_code 3 = .ok (.iload_n 3, 1) := by decide +kernel
theorem kX_length_d4 : decode prog_1_method_19_code 4 = .ok (.iload 4, 2) := by decide +kernel
theorem kX_length_d6 : decode prog_1_method_19_code 6 = .ok (.invokevirtual 260, 3) := by decide +kernel
theorem kX_length_d9 : decode prog_1_method_19_code 9 = .ok (.invokevirtual 264, 3) := by decide +kernel
theorem kX_length_d12 : decode prog_1_method_19_code 12 = .ok (.ireturn, 1) := by decide +kernel
theorem kX_shownPart_d0 : decode prog_1_method_26_code 0 = .ok (.aload_n 0, 1) := by decide +kernel
theorem kX_shownPart_d1 : decode prog_1_method_26_code 1 = .ok (.iload_n 1, 1) := by decide +kernel
theorem kX_shownPart_d2 : decode prog_1_method_26_code 2 = .ok (.invokevirtual 63, 3) := by decide +kernel
theorem kX_shownPart_d5 : decode prog_1_method_26_code 5 = .ok (.astore 5, 2) := by decide +kernel
theorem kX_shownPart_d7 : decode prog_1_method_26_code 7 = .ok (.aload 5, 2) := by decide +kernel
theorem kX_shownPart_d9 : decode prog_1_method_26_code 9 = .ok (.iload_n 2, 1) := by decide +kernel
theorem kX_shownPart_d10 : decode prog_1_method_26_code 10 = .ok (.iload_n 3, 1) := by decide +kernel
theorem kX_shownPart_d11 : decode prog_1_method_26_code 11 = .ok (.invokestatic 82, 3) := by decide +kernel
theorem kX_shownPart_d14 : decode prog_1_method_26_code 14 = .ok (.iload_n 1, 1) := by decide +kernel
theorem kX_shownPart_d15 : decode prog_1_method_26_code 15 = .ok (.bipush 16, 2) := by decide +kernel
theorem kX_shownPart_d17 : decode prog_1_method_26_code 17 = .ok (.imul, 1) := by decide +kernel
theorem kX_shownPart_d18 : decode prog_1_method_26_code 18 = .ok (.iload_n 2, 1) := by decide +kernel
theorem kX_shownPart_d19 : decode prog_1_method_26_code 19 = .ok (.iadd, 1) := by decide +kernel
theorem kX_shownPart_d20 : decode prog_1_method_26_code 20 = .ok (.bipush 16, 2) := by decide +kernel
theorem kX_shownPart_d22 : decode prog_1_method_26_code 22 = .ok (.imul, 1) := by decide +kernel
theorem kX_shownPart_d23 : decode prog_1_method_26_code 23 = .ok (.iload_n 3, 1) := by decide +kernel
theorem kX_shownPart_d24 : decode prog_1_method_26_code 24 = .ok (.iadd, 1) := by decide +kernel
theorem kX_shownPart_d25 : decode prog_1_method_26_code 25 = .ok (.istore 6, 2) := by decide +kernel
theorem kX_shownPart_d27 : decode prog_1_method_26_code 27 = .ok (.aload_n 0, 1) := by decide +kernel
theorem kX_shownPart_d28 : decode prog_1_method_26_code 28 = .ok (.getfield 59, 3) := by decide +kernel
theorem kX_shownPart_d31 : decode prog_1_method_26_code 31 = .ok (.iload 6, 2) := by decide +kernel
theorem kX_shownPart_d33 : decode prog_1_method_26_code 33 = .ok (.if_icmp .eq 48, 3) := by decide +kernel
theorem kX_shownPart_d36 : decode prog_1_method_26_code 36 = .ok (.aload_n 0, 1) := by decide +kernel
theorem kX_shownPart_d37 : decode prog_1_method_26_code 37 = .ok (.getfield 56, 3) := by decide +kernel
theorem kX_shownPart_d40 : decode prog_1_method_26_code 40 = .ok (.getfield 107, 3) := by decide +kernel
theorem kX_shownPart_d43 : decode prog_1_method_26_code 43 = .ok (.aload 5, 2) := by decide +kernel
theorem kX_shownPart_d45 : decode prog_1_method_26_code 45 = .ok (.iload_n 2, 1) := by decide +kernel
theorem kX_shownPart_d46 : decode prog_1_method_26_code 46 = .ok (.iload_n 3, 1) := by decide +kernel
theorem kX_shownPart_d47 : decode prog_1_method_26_code 47 = .ok (.invokevirtual 92, 3) := by decide +kernel
theorem kX_shownPart_d50 : decode prog_1_method_26_code 50 = .ok (.invokevirtual 165, 3) := by decide +kernel
theorem kX_shownPart_d53 : decode prog_1_method_26_code 53 = .ok (.aload_n 0, 1) := by decide +kernel
theorem kX_shownPart_d54 : decode prog_1_method_26_code 54 = .ok (.getfield 56, 3) := by decide +kernel
theorem kX_shownPart_d57 : decode prog_1_method_26_code 57 = .ok (.getfield 115, 3) := by decide +kernel
theorem kX_shownPart_d60 : decode prog_1_method_26_code 60 = .ok (.aload 5, 2) := by decide +kernel
theorem kX_shownPart_d62 : decode prog_1_method_26_code 62 = .ok (.getfield 121, 3) := by decide +kernel
theorem kX_shownPart_d65 : decode prog_1_method_26_code 65 = .ok (.invokevirtual 165, 3) := by decide +kernel
theorem kX_shownPart_d68 : decode prog_1_method_26_code 68 = .ok (.aload_n 0, 1) := by decide +kernel
theorem kX_shownPart_d69 : decode prog_1_method_26_code 69 = .ok (.getfield 56, 3) := by decide +kernel
theorem kX_shownPart_d72 : decode prog_1_method_26_code 72 = .ok (.invokevirtual 118, 3) := by decide +kernel
theorem kX_shownPart_d75 : decode prog_1_method_26_code 75 = .ok (.aload_n 0, 1) := by decide +kernel
theorem kX_shownPart_d76 : decode prog_1_method_26_code 76 = .ok (.iload 6, 2) := by decide +kernel
theorem kX_shownPart_d78 : decode prog_1_method_26_code 78 = .ok (.putfield 59, 3) := by decide +kernel
theorem kX_shownPart_d81 : decode prog_1_method_26_code 81 = .ok (.iload 4, 2) := by decide +kernel
theorem kX_shownPart_d83 : decode prog_1_method_26_code 83 = .ok (.ifCond .eq 13, 3) := by decide +kernel
theorem kX_shownPart_d86 : decode prog_1_method_26_code 86 = .ok (.aload_n 0, 1) := by decide +kernel
theorem kX_shownPart_d87 : decode prog_1_method_26_code 87 = .ok (.getfield 56, 3) := by decide +kernel
theorem kX_shownPart_d90 : decode prog_1_method_26_code 90 = .ok (.getfield 115, 3) := by decide +kernel
theorem kX_shownPart_d93 : decode prog_1_method_26_code 93 = .ok (.goto 10, 3) := by decide +kernel
theorem kX_shownPart_d96 : decode prog_1_method_26_code 96 = .ok (.aload_n 0, 1) := by decide +kernel
theorem kX_shownPart_d97 : decode prog_1_method_26_code 97 = .ok (.getfield 56, 3) := by decide +kernel
theorem kX_shownPart_d100 : decode prog_1_method_26_code 100 = .ok (.getfield 107, 3) := by decide +kernel
theorem kX_shownPart_d103 : decode prog_1_method_26_code 103 = .ok (.areturn, 1) := by decide +kernel
theorem kX_limb_d0 : decode prog_1_method_20_code 0 = .ok (.aload_n 0, 1) := by decide +kernel
theorem kX_limb_d1 : decode prog_1_method_20_code 1 = .ok (.iload_n 1, 1) := by decide +kernel
theorem kX_limb_d2 : decode prog_1_method_20_code 2 = .ok (.invokevirtual 63, 3) := by decide +kernel
theorem kX_limb_d5 : decode prog_1_method_20_code 5 = .ok (.iload_n 2, 1) := by decide +kernel
theorem kX_limb_d6 : decode prog_1_method_20_code 6 = .ok (.iload_n 3, 1) := by decide +kernel
theorem kX_limb_d7 : decode prog_1_method_20_code 7 = .ok (.invokestatic 82, 3) := by decide +kernel
theorem kX_limb_d10 : decode prog_1_method_20_code 10 = .ok (.iload 5, 2) := by decide +kernel
theorem kX_limb_d12 : decode prog_1_method_20_code 12 = .ok (.ifCond .ge 14, 3) := by decide +kernel
theorem kX_limb_d15 : decode prog_1_method_20_code 15 = .ok (.new 268, 3) := by decide +kernel
theorem kX_limb_d18 : decode prog_1_method_20_code 18 = .ok (.dup, 1) := by decide +kernel
theorem kX_limb_d19 : decode prog_1_method_20_code 19 = .ok (.ldc_w 270, 3) := by decide +kernel
theorem kX_limb_d22 : decode prog_1_method_20_code 22 = .ok (.invokespecial 272, 3) := by decide +kernel
theorem kX_limb_d25 : decode prog_1_method_20_code 25 = .ok (.athrow, 1) := by decide +kernel
theorem kX_limb_d26 : decode prog_1_method_20_code 26 = .ok (.aload_n 0, 1) := by decide +kernel
theorem kX_limb_d27 : decode prog_1_method_20_code 27 = .ok (.iload_n 1, 1) := by decide +kernel
theorem kX_limb_d28 : decode prog_1_method_20_code 28 = .ok (.iload_n 2, 1) := by decide +kernel
theorem kX_limb_d29 : decode prog_1_method_20_code 29 = .ok (.iload_n 3, 1) := by decide +kernel
theorem kX_limb_d30 : decode prog_1_method_20_code 30 = .ok (.iload 4, 2) := by decide +kernel
theorem kX_limb_d32 : decode prog_1_method_20_code 32 = .ok (.invokevirtual 260, 3) := by decide +kernel
theorem kX_limb_d35 : decode prog_1_method_20_code 35 = .ok (.iload 5, 2) := by decide +kernel
theorem kX_limb_d37 : decode prog_1_method_20_code 37 = .ok (.invokevirtual 273, 3) := by decide +kernel
theorem kX_limb_d40 : decode prog_1_method_20_code 40 = .ok (.ireturn, 1) := by decide +kernel
theorem kX_same_d0 : decode prog_1_method_21_code 0 = .ok (.aload_n 0, 1) := by decide +kernel
theorem kX_same_d1 : decode prog_1_method_21_code 1 = .ok (.iload_n 1, 1) := by decide +kernel
theorem kX_same_d2 : decode prog_1_method_21_code 2 = .ok (.invokevirtual 63, 3) := by decide +kernel
theorem kX_same_d5 : decode prog_1_method_21_code 5 = .ok (.astore_n 3, 1) := by decide +kernel
theorem kX_same_d6 : decode prog_1_method_21_code 6 = .ok (.aload_n 0, 1) := by decide +kernel
theorem kX_same_d7 : decode prog_1_method_21_code 7 = .ok (.iload_n 2, 1) := by decide +kernel
theorem kX_same_d8 : decode prog_1_method_21_code 8 = .ok (.invokevirtual 63, 3) := by decide +kernel
theorem kX_same_d11 : decode prog_1_method_21_code 11 = .ok (.astore 4, 2) := by decide +kernel
theorem kX_same_d13 : decode prog_1_method_21_code 13 = .ok (.aload_n 3, 1) := by decide +kernel
theorem kX_same_d14 : decode prog_1_method_21_code 14 = .ok (.aload 4, 2) := by decide +kernel
theorem kX_same_d16 : decode prog_1_method_21_code 16 = .ok (.invokevirtual 277, 3) := by decide +kernel
theorem kX_same_d19 : decode prog_1_method_21_code 19 = .ok (.ireturn, 1) := by decide +kernel
