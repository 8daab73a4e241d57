/-! decode rows of ExactFormsModel -/
theorem kR_init_d0 : decode prog_11_method_1_code 0 = .ok (.aload_n 0, 1) := by decide +kernel
theorem kR_init_d1 : decode prog_11_method_1_code 1 = .ok (.invokespecial 1, 3) := by decide +kernel
theorem kR_init_d4 : decode prog_11_method_1_code 4 = .ok (.aload_n 0, 1) := by decide +kernel
theorem kR_init_d5 : decode prog_11_method_1_code 5 = .ok (.new 7, 3) := by decide +kernel
theorem kR_init_d8 : decode prog_11_method_1_code 8 = .ok (.dup, 1) := by decide +kernel
theorem kR_init_d9 : decode prog_11_method_1_code 9 = .ok (.invokespecial 9, 3) := by decide +kernel
theorem kR_init_d12 : decode prog_11_method_1_code 12 = .ok (.putfield 10, 3) := by decide +kernel
theorem kR_init_d15 : decode prog_11_method_1_code 15 = .ok (.aload_n 0, 1) := by decide +kernel
theorem kR_init_d16 : decode prog_11_method_1_code 16 = .ok (.new 16, 3) := by decide +kernel
theorem kR_init_d19 : decode prog_11_method_1_code 19 = .ok (.dup, 1) := by decide +kernel
theorem kR_init_d20 : decode prog_11_method_1_code 20 = .ok (.aload_n 0, 1) := by decide +kernel
theorem kR_init_d21 : decode prog_11_method_1_code 21 = .ok (.getfield 10, 3) := by decide +kernel
theorem kR_init_d24 : decode prog_11_method_1_code 24 = .ok (.invokespecial 18, 3) := by decide +kernel
theorem kR_init_d27 : decode prog_11_method_1_code 27 = .ok (.putfield 21, 3) := by decide +kernel
theorem kR_init_d30 : decode prog_11_method_1_code 30 = .ok (.aload_n 0, 1) := by decide +kernel
theorem kR_init_d31 : decode prog_11_method_1_code 31 = .ok (.bipush 8, 2) := by decide +kernel
theorem kR_init_d33 : decode prog_11_method_1_code 33 = .ok (.anewarray 7, 3) := by decide +kernel
theorem kR_init_d36 : decode prog_11_method_1_code 36 = .ok (.putfield 25, 3) := by decide +kernel
theorem kR_init_d39 : decode prog_11_method_1_code 39 = .ok (.iconst 0, 1) := by decide +kernel
theorem kR_init_d40 : decode prog_11_method_1_code 40 = .ok (.istore_n 1, 1) := by decide +kernel
theorem kR_init_d41 : decode prog_11_method_1_code 41 = .ok (.iload_n 1, 1) := by decide +kernel
theorem kR_init_d42 : decode prog_11_method_1_code 42 = .ok (.bipush 8, 2) := by decide +kernel
theorem kR_init_d44 : decode prog_11_method_1_code 44 = .ok (.if_icmp .ge 29, 3) := by decide +kernel
theorem kR_init_d47 : decode prog_11_method_1_code 47 = .ok (.aload_n 0, 1) := by decide +kernel
theorem kR_init_d48 : decode prog_11_method_1_code 48 = .ok (.getfield 25, 3) := by decide +kernel
theorem kR_init_d51 : decode prog_11_method_1_code 51 = .ok (.iload_n 1, 1) := by decide +kernel
theorem kR_init_d52 : decode prog_11_method_1_code 52 = .ok (.new 7, 3) := by decide +kernel
theorem kR_init_d55 : decode prog_11_method_1_code 55 = .ok (.dup, 1) := by decide +kernel
theorem kR_init_d56 : decode prog_11_method_1_code 56 = .ok (.invokespecial 9, 3) := by decide +kernel
theorem kR_init_d59 : decode prog_11_method_1_code 59 = .ok (.aastore, 1) := by decide +kernel
theorem kR_init_d60 : decode prog_11_method_1_code 60 = .ok (.aload_n 0, 1) := by decide +kernel
theorem kR_init_d61 : decode prog_11_method_1_code 61 = .ok (.iload_n 1, 1) := by decide +kernel
theorem kR_init_d62 : decode prog_11_method_1_code 62 = .ok (.iconst 1, 1) := by decide +kernel
theorem kR_init_d63 : decode prog_11_method_1_code 63 = .ok (.iconst 1, 1) := by decide +kernel
theorem kR_init_d64 : decode prog_11_method_1_code 64 = .ok (.invokevirtual 29, 3) := by decide +kernel
theorem kR_init_d67 : decode prog_11_method_1_code 67 = .ok (.iinc 1 1, 3) := by decide +kernel
theorem kR_init_d70 : decode prog_11_method_1_code 70 = .ok (.goto (-29), 3) := by decide +kernel
theorem kR_init_d73 : decode prog_11_method_1_code 73 = .ok (.return_, 1) := by decide +kernel
theorem kR_empty_d0 : decode prog_11_method_5_code 0 = .ok (.aload_n 0, 1) := by decide +kernel
theorem kR_empty_d1 : decode prog_11_method_5_code 1 = .ok (.getfield 25, 3) := by decide +kernel
theorem kR_empty_d4 : decode prog_11_method_5_code 4 = .ok (.iload_n 1, 1) := by decide +kernel
theorem kR_empty_d5 : decode prog_11_method_5_code 5 = .ok (.aaload, 1) := by decide +kernel
theorem kR_empty_d6 : decode prog_11_method_5_code 6 = .ok (.astore 4, 2) := by decide +kernel
theorem kR_empty_d8 : decode prog_11_method_5_code 8 = .ok (.aload 4, 2) := by decide +kernel
theorem kR_empty_d10 : decode prog_11_method_5_code 10 = .ok (.getfield 37, 3) := by decide +kernel
theorem kR_empty_d13 : decode prog_11_method_5_code 13 = .ok (.iconst 3, 1) := by decide +kernel
theorem kR_empty_d14 : decode prog_11_method_5_code 14 = .ok (.putfield 41, 3) := by decide +kernel
theorem kR_empty_d17 : decode prog_11_method_5_code 17 = .ok (.aload 4, 2) := by decide +kernel
theorem kR_empty_d19 : decode prog_11_method_5_code 19 = .ok (.iconst 0, 1) := by decide +kernel
theorem kR_empty_d20 : decode prog_11_method_5_code 20 = .ok (.putfield 46, 3) := by decide +kernel
theorem kR_empty_d23 : decode prog_11_method_5_code 23 = .ok (.aload 4, 2) := by decide +kernel
theorem kR_empty_d25 : decode prog_11_method_5_code 25 = .ok (.iload_n 2, 1) := by decide +kernel
theorem kR_empty_d26 : decode prog_11_method_5_code 26 = .ok (.iload_n 3, 1) := by decide +kernel
theorem kR_empty_d27 : decode prog_11_method_5_code 27 = .ok (.invokevirtual 47, 3) := by decide +kernel
theorem kR_empty_d30 : decode prog_11_method_5_code 30 = .ok (.istore 5, 2) := by decide +kernel
theorem kR_empty_d32 : decode prog_11_method_5_code 32 = .ok (.iconst 0, 1) := by decide +kernel
theorem kR_empty_d33 : decode prog_11_method_5_code 33 = .ok (.istore 6, 2) := by decide +kernel
theorem kR_empty_d35 : decode prog_11_method_5_code 35 = .ok (.iload 6, 2) := by decide +kernel
theorem kR_empty_d37 : decode prog_11_method_5_code 37 = .ok (.iload_n 2, 1) := by decide +kernel
theorem kR_empty_d38 : decode prog_11_method_5_code 38 = .ok (.iload_n 3, 1) := by decide +kernel
theorem kR_empty_d39 : decode prog_11_method_5_code 39 = .ok (.imul, 1) := by decide +kernel
theorem kR_empty_d40 : decode prog_11_method_5_code 40 = .ok (.if_icmp .ge 24, 3) := by decide +kernel
theorem kR_empty_d43 : decode prog_11_method_5_code 43 = .ok (.aload 4, 2) := by decide +kernel
theorem kR_empty_d45 : decode prog_11_method_5_code 45 = .ok (.lconst 0, 1) := by decide +kernel
theorem kR_empty_d46 : decode prog_11_method_5_code 46 = .ok (.invokevirtual 51, 3) := by decide +kernel
theorem kR_empty_d49 : decode prog_11_method_5_code 49 = .ok (.aload 4, 2) := by decide +kernel
theorem kR_empty_d51 : decode prog_11_method_5_code 51 = .ok (.iload 5, 2) := by decide +kernel
theorem kR_empty_d53 : decode prog_11_method_5_code 53 = .ok (.iload 6, 2) := by decide +kernel
theorem kR_empty_d55 : decode prog_11_method_5_code 55 = .ok (.invokevirtual 55, 3) := by decide +kernel
theorem kR_empty_d58 : decode prog_11_method_5_code 58 = .ok (.iinc 6 1, 3) := by decide +kernel
theorem kR_empty_d61 : decode prog_11_method_5_code 61 = .ok (.goto (-26), 3) := by decide +kernel
theorem kR_empty_d64 : decode prog_11_method_5_code 64 = .ok (.return_, 1) := by decide +kernel
theorem kR_thrown_d0 : decode prog_11_method_2_code 0 = .ok (.aload_n 0, 1) := by decide +kernel
theorem kR_thrown_d1 : decode prog_11_method_2_code 1 = .ok (.getfield 33, 3) := by decide +kernel
theorem kR_thrown_d4 : decode prog_11_method_2_code 4 = .ok (.ireturn, 1) := by decide +kernel
theorem kR_make_d0 : decode prog_11_method_17_code 0 = .ok (.aload_n 0, 1) := by decide +kernel
theorem kR_make_d1 : decode prog_11_method_17_code 1 = .ok (.iload_n 1, 1) := by decide +kernel
theorem kR_make_d2 : decode prog_11_method_17_code 2 = .ok (.invokestatic 141, 3) := by decide +kernel
theorem kR_make_d5 : decode prog_11_method_17_code 5 = .ok (.ifCond .ne 7, 3) := by decide +kernel
theorem kR_make_d8 : decode prog_11_method_17_code 8 = .ok (.iconst 1, 1) := by decide +kernel
theorem kR_make_d9 : decode prog_11_method_17_code 9 = .ok (.goto 30, 3) := by decide +kernel
theorem kR_make_d12 : decode prog_11_method_17_code 12 = .ok (.iload_n 2, 1) := by decide +kernel
theorem kR_make_d13 : decode prog_11_method_17_code 13 = .ok (.iconst 1, 1) := by decide +kernel
theorem kR_make_d14 : decode prog_11_method_17_code 14 = .ok (.if_icmp .lt 20, 3) := by decide +kernel
theorem kR_make_d17 : decode prog_11_method_17_code 17 = .ok (.iload_n 2, 1) := by decide +kernel
theorem kR_make_d18 : decode prog_11_method_17_code 18 = .ok (.bipush 16, 2) := by decide +kernel
theorem kR_make_d20 : decode prog_11_method_17_code 20 = .ok (.if_icmp .gt 14, 3) := by decide +kernel
theorem kR_make_d23 : decode prog_11_method_17_code 23 = .ok (.iload_n 3, 1) := by decide +kernel
theorem kR_make_d24 : decode prog_11_method_17_code 24 = .ok (.iconst 1, 1) := by decide +kernel
theorem kR_make_d25 : decode prog_11_method_17_code 25 = .ok (.if_icmp .lt 9, 3) := by decide +kernel
theorem kR_make_d28 : decode prog_11_method_17_code 28 = .ok (.iload_n 3, 1) := by decide +kernel
theorem kR_make_d29 : decode prog_11_method_17_code 29 = .ok (.bipush 16, 2) := by decide +kernel
theorem kR_make_d31 : decode prog_11_method_17_code 31 = .ok (.if_icmp .le 7, 3) := by decide +kernel
theorem kR_make_d34 : decode prog_11_method_17_code 34 = .ok (.iconst 2, 1) := by decide +kernel
theorem kR_make_d35 : decode prog_11_method_17_code 35 = .ok (.goto 4, 3) := by decide +kernel
theorem kR_make_d38 : decode prog_11_method_17_code 38 = .ok (.iconst 0, 1) := by decide +kernel
theorem kR_make_d39 : decode prog_11_method_17_code 39 = .ok (.invokevirtual 123, 3) := by decide +kernel
theorem kR_make_d42 : decode prog_11_method_17_code 42 = .ok (.ifCond .eq 4, 3) := by decide +kernel
theorem kR_make_d45 : decode prog_11_method_17_code 45 = .ok (.return_, 1) := by decide +kernel
theorem kR_make_d46 : decode prog_11_method_17_code 46 = .ok (.aload_n 0, 1) := by decide +kernel
theorem kR_make_d47 : decode prog_11_method_17_code 47 = .ok (.iload_n 1, 1) := by decide +kernel
theorem kR_make_d48 : decode prog_11_method_17_code 48 = .ok (.iload_n 2, 1) := by decide +kernel
theorem kR_make_d49 : decode prog_11_method_17_code 49 = .ok (.iload_n 3, 1) := by decide +kernel
theorem kR_make_d50 : decode prog_11_method_17_code 50 = .ok (.invokevirtual 29, 3) := by decide +kernel
theorem kR_make_d53 : decode prog_11_method_17_code 53 = .ok (.return_, 1) := by decide +kernel
theorem kR_isRegister_d0 : decode prog_11_method_4_code 0 = .ok (.iload_n 0, 1) := by decide +kernel
theorem kR_isRegister_d1 : decode prog_11_method_4_code 1 = .ok (.ifCond .lt 13, 3) := by decide +kernel
theorem kR_isRegister_d4 : decode prog_11_method_4_code 4 = .ok (.iload_n 0, 1) := by decide +kernel
theorem kR_isRegister_d5 : decode prog_11_method_4_code 5 = .ok (.bipush 8, 2) := by decide +kernel
theorem kR_isRegister_d7 : decode prog_11_method_4_code 7 = .ok (.if_icmp .ge 7, 3) := by decide +kernel
theorem kR_isRegister_d10 : decode prog_11_method_4_code 10 = .ok (.iconst 1, 1) := by decide +kernel
theorem kR_isRegister_d11 : decode prog_11_method_4_code 11 = .ok (.goto 4, 3) := by decide +kernel
theorem kR_isRegister_d14 : decode prog_11_method_4_code 14 = .ok (.iconst 0, 1) := by decide +kernel
theorem kR_isRegister_d15 : decode prog_11_method_4_code 15 = .ok (.ireturn, 1) := by decide +kernel
theorem kR_refuses_d0 : decode prog_11_method_3_code 0 = .ok (.aload_n 0, 1) := by decide +kernel
theorem kR_refuses_d1 : decode prog_11_method_3_code 1 = .ok (.iload_n 1, 1) := by decide +kernel
theorem kR_refuses_d2 : decode prog_11_method_3_code 2 = .ok (.putfield 33, 3) := by decide +kernel
theorem kR_refuses_d5 : decode prog_11_method_3_code 5 = .ok (.iload_n 1, 1) := by decide +kernel
theorem kR_refuses_d6 : decode prog_11_method_3_code 6 = .ok (.ifCond .le 7, 3) := by decide +kernel
theorem kR_refuses_d9 : decode prog_11_method_3_code 9 = .ok (.iconst 1, 1) := by decide +kernel
theorem kR_refuses_d10 : decode prog_11_method_3_code 10 = .ok (.goto 4, 3) := by decide +kernel
theorem kR_refuses_d13 : decode prog_11_method_3_code 13 = .ok (.iconst 0, 1) := by decide +kernel
theorem kR_refuses_d14 : decode prog_11_method_3_code 14 = .ok (.ireturn, 1) := by decide +kernel
theorem kR_set_d0 : decode prog_11_method_18_code 0 = .ok (.aload_n 0, 1) := by decide +kernel
theorem kR_set_d1 : decode prog_11_method_18_code 1 = .ok (.aload_n 0, 1) := by decide +kernel
theorem kR_set_d2 : decode prog_11_method_18_code 2 = .ok (.iload_n 1, 1) := by decide +kernel
theorem kR_set_d3 : decode prog_11_method_18_code 3 = .ok (.iload_n 2, 1) := by decide +kernel
theorem kR_set_d4 : decode prog_11_method_18_code 4 = .ok (.iload_n 3, 1) := by decide +kernel
theorem kR_set_d5 : decode prog_11_method_18_code 5 = .ok (.invokevirtual 144, 3) := by decide +kernel
theorem kR_set_d8 : decode prog_11_method_18_code 8 = .ok (.ifCond .ne 7, 3) := by decide +kernel
theorem kR_set_d11 : decode prog_11_method_18_code 11 = .ok (.iconst 1, 1) := by decide +kernel
theorem kR_set_d12 : decode prog_11_method_18_code 12 = .ok (.goto 15, 3) := by decide +kernel
theorem kR_set_d15 : decode prog_11_method_18_code 15 = .ok (.lload 6, 2) := by decide +kernel
theorem kR_set_d17 : decode prog_11_method_18_code 17 = .ok (.lconst 0, 1) := by decide +kernel
theorem kR_set_d18 : decode prog_11_method_18_code 18 = .ok (.lcmp, 1) := by decide +kernel
theorem kR_set_d19 : decode prog_11_method_18_code 19 = .ok (.ifCond .ne 7, 3) := by decide +kernel
theorem kR_set_d22 : decode prog_11_method_18_code 22 = .ok (.iconst 2, 1) := by decide +kernel
theorem kR_set_d23 : decode prog_11_method_18_code 23 = .ok (.goto 4, 3) := by decide +kernel
theorem kR_set_d26 : decode prog_11_method_18_code 26 = .ok (.iconst 0, 1) := by decide +kernel
theorem kR_set_d27 : decode prog_11_method_18_code 27 = .ok (.invokevirtual 123, 3) := by decide +kernel
theorem kR_set_d30 : decode prog_11_method_18_code 30 = .ok (.ifCond .eq 4, 3) := by decide +kernel
theorem kR_set_d33 : decode prog_11_method_18_code 33 = .ok (.return_, 1) := by decide +kernel
theorem kR_set_d34 : decode prog_11_method_18_code 34 = .ok (.aload_n 0, 1) := by decide +kernel
theorem kR_set_d35 : decode prog_11_method_18_code 35 = .ok (.invokevirtual 148, 3) := by decide +kernel
theorem kR_set_d38 : decode prog_11_method_18_code 38 = .ok (.aload_n 0, 1) := by decide +kernel
theorem kR_set_d39 : decode prog_11_method_18_code 39 = .ok (.iload_n 1, 1) := by decide +kernel
theorem kR_set_d40 : decode prog_11_method_18_code 40 = .ok (.invokevirtual 151, 3) := by decide +kernel
theorem kR_set_d43 : decode prog_11_method_18_code 43 = .ok (.istore 8, 2) := by decide +kernel
theorem kR_set_d45 : decode prog_11_method_18_code 45 = .ok (.aload_n 0, 1) := by decide +kernel
theorem kR_set_d46 : decode prog_11_method_18_code 46 = .ok (.getfield 10, 3) := by decide +kernel
theorem kR_set_d49 : decode prog_11_method_18_code 49 = .ok (.getfield 37, 3) := by decide +kernel
theorem kR_set_d52 : decode prog_11_method_18_code 52 = .ok (.lload 4, 2) := by decide +kernel
theorem kR_set_d54 : decode prog_11_method_18_code 54 = .ok (.invokevirtual 154, 3) := by decide +kernel
theorem kR_set_d57 : decode prog_11_method_18_code 57 = .ok (.istore 9, 2) := by decide +kernel
theorem kR_set_d59 : decode prog_11_method_18_code 59 = .ok (.aload_n 0, 1) := by decide +kernel
theorem kR_set_d60 : decode prog_11_method_18_code 60 = .ok (.getfield 10, 3) := by decide +kernel
theorem kR_set_d63 : decode prog_11_method_18_code 63 = .ok (.getfield 37, 3) := by decide +kernel
theorem kR_set_d66 : decode prog_11_method_18_code 66 = .ok (.lload 6, 2) := by decide +kernel
theorem kR_set_d68 : decode prog_11_method_18_code 68 = .ok (.invokevirtual 154, 3) := by decide +kernel
theorem kR_set_d71 : decode prog_11_method_18_code 71 = .ok (.istore 10, 2) := by decide +kernel
theorem kR_set_d73 : decode prog_11_method_18_code 73 = .ok (.aload_n 0, 1) := by decide +kernel
theorem kR_set_d74 : decode prog_11_method_18_code 74 = .ok (.getfield 10, 3) := by decide +kernel
theorem kR_set_d77 : decode prog_11_method_18_code 77 = .ok (.aload_n 0, 1) := by decide +kernel
theorem kR_set_d78 : decode prog_11_method_18_code 78 = .ok (.getfield 10, 3) := by decide +kernel
theorem kR_set_d81 : decode prog_11_method_18_code 81 = .ok (.iload 8, 2) := by decide +kernel
theorem kR_set_d83 : decode prog_11_method_18_code 83 = .ok (.invokevirtual 63, 3) := by decide +kernel
theorem kR_set_d86 : decode prog_11_method_18_code 86 = .ok (.aload_n 0, 1) := by decide +kernel
theorem kR_set_d87 : decode prog_11_method_18_code 87 = .ok (.getfield 10, 3) := by decide +kernel
theorem kR_set_d90 : decode prog_11_method_18_code 90 = .ok (.iload 8, 2) := by decide +kernel
theorem kR_set_d92 : decode prog_11_method_18_code 92 = .ok (.invokevirtual 67, 3) := by decide +kernel
theorem kR_set_d95 : decode prog_11_method_18_code 95 = .ok (.invokevirtual 47, 3) := by decide +kernel
theorem kR_set_d98 : decode prog_11_method_18_code 98 = .ok (.istore 11, 2) := by decide +kernel
theorem kR_set_d100 : decode prog_11_method_18_code 100 = .ok (.iconst 0, 1) := by decide +kernel
theorem kR_set_d101 : decode prog_11_method_18_code 101 = .ok (.istore 12, 2) := by decide +kernel
theorem kR_set_d103 : decode prog_11_method_18_code 103 = .ok (.iload 12, 2) := by decide +kernel
theorem kR_set_d105 : decode prog_11_method_18_code 105 = .ok (.aload_n 0, 1) := by decide +kernel
theorem kR_set_d106 : decode prog_11_method_18_code 106 = .ok (.getfield 10, 3) := by decide +kernel
theorem kR_set_d109 : decode prog_11_method_18_code 109 = .ok (.iload 8, 2) := by decide +kernel
theorem kR_set_d111 : decode prog_11_method_18_code 111 = .ok (.invokevirtual 70, 3) := by decide +kernel
theorem kR_set_d114 : decode prog_11_method_18_code 114 = .ok (.if_icmp .ge 69, 3) := by decide +kernel
theorem kR_set_d117 : decode prog_11_method_18_code 117 = .ok (.iload 12, 2) := by decide +kernel
theorem kR_set_d119 : decode prog_11_method_18_code 119 = .ok (.iload_n 2, 1) := by decide +kernel
theorem kR_set_d120 : decode prog_11_method_18_code 120 = .ok (.aload_n 0, 1) := by decide +kernel
theorem kR_set_d121 : decode prog_11_method_18_code 121 = .ok (.getfield 10, 3) := by decide +kernel
theorem kR_set_d124 : decode prog_11_method_18_code 124 = .ok (.iload 8, 2) := by decide +kernel
theorem kR_set_d126 : decode prog_11_method_18_code 126 = .ok (.invokevirtual 67, 3) := by decide +kernel
theorem kR_set_d129 : decode prog_11_method_18_code 129 = .ok (.imul, 1) := by decide +kernel
theorem kR_set_d130 : decode prog_11_method_18_code 130 = .ok (.iload_n 3, 1) := by decide +kernel
theorem kR_set_d131 : decode prog_11_method_18_code 131 = .ok (.iadd, 1) := by decide +kernel
theorem kR_set_d132 : decode prog_11_method_18_code 132 = .ok (.if_icmp .ne 30, 3) := by decide +kernel
theorem kR_set_d135 : decode prog_11_method_18_code 135 = .ok (.aload_n 0, 1) := by decide +kernel
theorem kR_set_d136 : decode prog_11_method_18_code 136 = .ok (.getfield 10, 3) := by decide +kernel
theorem kR_set_d139 : decode prog_11_method_18_code 139 = .ok (.iload 9, 2) := by decide +kernel
theorem kR_set_d141 : decode prog_11_method_18_code 141 = .ok (.iconst 1, 1) := by decide +kernel
theorem kR_set_d142 : decode prog_11_method_18_code 142 = .ok (.iload 10, 2) := by decide +kernel
theorem kR_set_d144 : decode prog_11_method_18_code 144 = .ok (.iconst 1, 1) := by decide +kernel
theorem kR_set_d145 : decode prog_11_method_18_code 145 = .ok (.invokevirtual 158, 3) := by decide +kernel
theorem kR_set_d148 : decode prog_11_method_18_code 148 = .ok (.aload_n 0, 1) := by decide +kernel
theorem kR_set_d149 : decode prog_11_method_18_code 149 = .ok (.getfield 10, 3) := by decide +kernel
theorem kR_set_d152 : decode prog_11_method_18_code 152 = .ok (.iload 11, 2) := by decide +kernel
theorem kR_set_d154 : decode prog_11_method_18_code 154 = .ok (.iload 12, 2) := by decide +kernel
theorem kR_set_d156 : decode prog_11_method_18_code 156 = .ok (.invokevirtual 55, 3) := by decide +kernel
theorem kR_set_d159 : decode prog_11_method_18_code 159 = .ok (.goto 18, 3) := by decide +kernel
theorem kR_set_d162 : decode prog_11_method_18_code 162 = .ok (.aload_n 0, 1) := by decide +kernel
theorem kR_set_d163 : decode prog_11_method_18_code 163 = .ok (.getfield 10, 3) := by decide +kernel
theorem kR_set_d166 : decode prog_11_method_18_code 166 = .ok (.iload 11, 2) := by decide +kernel
theorem kR_set_d168 : decode prog_11_method_18_code 168 = .ok (.iload 12, 2) := by decide +kernel
theorem kR_set_d170 : decode prog_11_method_18_code 170 = .ok (.iload 8, 2) := by decide +kernel
theorem kR_set_d172 : decode prog_11_method_18_code 172 = .ok (.iload 12, 2) := by decide +kernel
theorem kR_set_d174 : decode prog_11_method_18_code 174 = .ok (.invokevirtual 161, 3) := by decide +kernel
theorem kR_set_d177 : decode prog_11_method_18_code 177 = .ok (.iinc 12 1, 3) := by decide +kernel
theorem kR_set_d180 : decode prog_11_method_18_code 180 = .ok (.goto (-77), 3) := by decide +kernel
theorem kR_set_d183 : decode prog_11_method_18_code 183 = .ok (.aload_n 0, 1) := by decide +kernel
theorem kR_set_d184 : decode prog_11_method_18_code 184 = .ok (.iload_n 1, 1) := by decide +kernel
theorem kR_set_d185 : decode prog_11_method_18_code 185 = .ok (.iload 11, 2) := by decide +kernel
theorem kR_set_d187 : decode prog_11_method_18_code 187 = .ok (.iconst 3, 1) := by decide +kernel
theorem kR_set_d188 : decode prog_11_method_18_code 188 = .ok (.invokevirtual 164, 3) := by decide +kernel
theorem kR_set_d191 : decode prog_11_method_18_code 191 = .ok (.pop, 1) := by decide +kernel
theorem kR_set_d192 : decode prog_11_method_18_code 192 = .ok (.return_, 1) := by decide +kernel
theorem kR_isCell_d0 : decode prog_11_method_16_code 0 = .ok (.iload_n 1, 1) := by decide +kernel
theorem kR_isCell_d1 : decode prog_11_method_16_code 1 = .ok (.invokestatic 141, 3) := by decide +kernel
theorem kR_isCell_d4 : decode prog_11_method_16_code 4 = .ok (.ifCond .eq 43, 3) := by decide +kernel
theorem kR_isCell_d7 : decode prog_11_method_16_code 7 = .ok (.iload_n 2, 1) := by decide +kernel
theorem kR_isCell_d8 : decode prog_11_method_16_code 8 = .ok (.ifCond .lt 39, 3) := by decide +kernel
theorem kR_isCell_d11 : decode prog_11_method_16_code 11 = .ok (.iload_n 2, 1) := by decide +kernel
theorem kR_isCell_d12 : decode prog_11_method_16_code 12 = .ok (.aload_n 0, 1) := by decide +kernel
theorem kR_isCell_d13 : decode prog_11_method_16_code 13 = .ok (.getfield 25, 3) := by decide +kernel
theorem kR_isCell_d16 : decode prog_11_method_16_code 16 = .ok (.iload_n 1, 1) := by decide +kernel
theorem kR_isCell_d17 : decode prog_11_method_16_code 17 = .ok (.aaload, 1) := by decide +kernel
theorem kR_isCell_d18 : decode prog_11_method_16_code 18 = .ok (.iconst 0, 1) := by decide +kernel
theorem kR_isCell_d19 : decode prog_11_method_16_code 19 = .ok (.invokevirtual 63, 3) := by decide +kernel
theorem kR_isCell_d22 : decode prog_11_method_16_code 22 = .ok (.if_icmp .ge 25, 3) := by decide +kernel
theorem kR_isCell_d25 : decode prog_11_method_16_code 25 = .ok (.iload_n 3, 1) := by decide +kernel
theorem kR_isCell_d26 : decode prog_11_method_16_code 26 = .ok (.ifCond .lt 21, 3) := by decide +kernel
theorem kR_isCell_d29 : decode prog_11_method_16_code 29 = .ok (.iload_n 3, 1) := by decide +kernel
theorem kR_isCell_d30 : decode prog_11_method_16_code 30 = .ok (.aload_n 0, 1) := by decide +kernel
theorem kR_isCell_d31 : decode prog_11_method_16_code 31 = .ok (.getfield 25, 3) := by decide +kernel
theorem kR_isCell_d34 : decode prog_11_method_16_code 34 = .ok (.iload_n 1, 1) := by decide +kernel
theorem kR_isCell_d35 : decode prog_11_method_16_code 35 = .ok (.aaload, 1) := by decide +kernel
theorem kR_isCell_d36 : decode prog_11_method_16_code 36 = .ok (.iconst 0, 1) := by decide +kernel
theorem kR_isCell_d37 : decode prog_11_method_16_code 37 = .ok (.invokevirtual 67, 3) := by decide +kernel
theorem kR_isCell_d40 : decode prog_11_method_16_code 40 = .ok (.if_icmp .ge 7, 3) := by decide +kernel
theorem kR_isCell_d43 : decode prog_11_method_16_code 43 = .ok (.iconst 1, 1) := by decide +kernel
theorem kR_isCell_d44 : decode prog_11_method_16_code 44 = .ok (.goto 4, 3) := by decide +kernel
theorem kR_isCell_d47 : decode prog_11_method_16_code 47 = .ok (.iconst 0, 1) := by decide +kernel
theorem kR_isCell_d48 : decode prog_11_method_16_code 48 = .ok (.ireturn, 1) := by decide +kernel
theorem kR_begin_d0 : decode prog_11_method_7_code 0 = .ok (.aload_n 0, 1) := by decide +kernel
theorem kR_begin_d1 : decode prog_11_method_7_code 1 = .ok (.getfield 10, 3) := by decide +kernel
theorem kR_begin_d4 : decode prog_11_method_7_code 4 = .ok (.getfield 37, 3) := by decide +kernel
theorem kR_begin_d7 : decode prog_11_method_7_code 7 = .ok (.iconst 3, 1) := by decide +kernel
theorem kR_begin_d8 : decode prog_11_method_7_code 8 = .ok (.putfield 41, 3) := by decide +kernel
theorem kR_begin_d11 : decode prog_11_method_7_code 11 = .ok (.aload_n 0, 1) := by decide +kernel
theorem kR_begin_d12 : decode prog_11_method_7_code 12 = .ok (.getfield 10, 3) := by decide +kernel
theorem kR_begin_d15 : decode prog_11_method_7_code 15 = .ok (.iconst 0, 1) := by decide +kernel
theorem kR_begin_d16 : decode prog_11_method_7_code 16 = .ok (.putfield 46, 3) := by decide +kernel
theorem kR_begin_d19 : decode prog_11_method_7_code 19 = .ok (.return_, 1) := by decide +kernel
theorem kR_load_d0 : decode prog_11_method_6_code 0 = .ok (.aload_n 0, 1) := by decide +kernel
theorem kR_load_d1 : decode prog_11_method_6_code 1 = .ok (.getfield 10, 3) := by decide +kernel
theorem kR_load_d4 : decode prog_11_method_6_code 4 = .ok (.aload_n 0, 1) := by decide +kernel
theorem kR_load_d5 : decode prog_11_method_6_code 5 = .ok (.getfield 25, 3) := by decide +kernel
theorem kR_load_d8 : decode prog_11_method_6_code 8 = .ok (.iload_n 1, 1) := by decide +kernel
theorem kR_load_d9 : decode prog_11_method_6_code 9 = .ok (.aaload, 1) := by decide +kernel
theorem kR_load_d10 : decode prog_11_method_6_code 10 = .ok (.iconst 0, 1) := by decide +kernel
theorem kR_load_d11 : decode prog_11_method_6_code 11 = .ok (.invokestatic 59, 3) := by decide +kernel
theorem kR_load_d14 : decode prog_11_method_6_code 14 = .ok (.ireturn, 1) := by decide +kernel
theorem kR_move_d0 : decode prog_11_method_8_code 0 = .ok (.aload_n 0, 1) := by decide +kernel
theorem kR_move_d1 : decode prog_11_method_8_code 1 = .ok (.aload_n 1, 1) := by decide +kernel
theorem kR_move_d2 : decode prog_11_method_8_code 2 = .ok (.iload_n 2, 1) := by decide +kernel
theorem kR_move_d3 : decode prog_11_method_8_code 3 = .ok (.invokevirtual 63, 3) := by decide +kernel
theorem kR_move_d6 : decode prog_11_method_8_code 6 = .ok (.aload_n 1, 1) := by decide +kernel
theorem kR_move_d7 : decode prog_11_method_8_code 7 = .ok (.iload_n 2, 1) := by decide +kernel
theorem kR_move_d8 : decode prog_11_method_8_code 8 = .ok (.invokevirtual 67, 3) := by decide +kernel
theorem kR_move_d11 : decode prog_11_method_8_code 11 = .ok (.invokevirtual 47, 3) := by decide +kernel
theorem kR_move_d14 : decode prog_11_method_8_code 14 = .ok (.istore_n 3, 1) := by decide +kernel
theorem kR_move_d15 : decode prog_11_method_8_code 15 = .ok (.iconst 0, 1) := by decide +kernel
theorem kR_move_d16 : decode prog_11_method_8_code 16 = .ok (.istore 4, 2) := by decide +kernel
theorem kR_move_d18 : decode prog_11_method_8_code 18 = .ok (.iload 4, 2) := by decide +kernel
theorem kR_move_d20 : decode prog_11_method_8_code 20 = .ok (.aload_n 1, 1) := by decide +kernel
theorem kR_move_d21 : decode prog_11_method_8_code 21 = .ok (.iload_n 2, 1) := by decide +kernel
theorem kR_move_d22 : decode prog_11_method_8_code 22 = .ok (.invokevirtual 70, 3) := by decide +kernel
theorem kR_move_d25 : decode prog_11_method_8_code 25 = .ok (.if_icmp .ge 75, 3) := by decide +kernel
theorem kR_move_d28 : decode prog_11_method_8_code 28 = .ok (.aload_n 0, 1) := by decide +kernel
theorem kR_move_d29 : decode prog_11_method_8_code 29 = .ok (.aload_n 0, 1) := by decide +kernel
theorem kR_move_d30 : decode prog_11_method_8_code 30 = .ok (.getfield 37, 3) := by decide +kernel
theorem kR_move_d33 : decode prog_11_method_8_code 33 = .ok (.aload_n 1, 1) := by decide +kernel
theorem kR_move_d34 : decode prog_11_method_8_code 34 = .ok (.getfield 37, 3) := by decide +kernel
theorem kR_move_d37 : decode prog_11_method_8_code 37 = .ok (.aload_n 1, 1) := by decide +kernel
theorem kR_move_d38 : decode prog_11_method_8_code 38 = .ok (.iload_n 2, 1) := by decide +kernel
theorem kR_move_d39 : decode prog_11_method_8_code 39 = .ok (.iload 4, 2) := by decide +kernel
theorem kR_move_d41 : decode prog_11_method_8_code 41 = .ok (.invokevirtual 73, 3) := by decide +kernel
theorem kR_move_d44 : decode prog_11_method_8_code 44 = .ok (.invokestatic 76, 3) := by decide +kernel
theorem kR_move_d47 : decode prog_11_method_8_code 47 = .ok (.putfield 80, 3) := by decide +kernel
theorem kR_move_d50 : decode prog_11_method_8_code 50 = .ok (.aload_n 0, 1) := by decide +kernel
theorem kR_move_d51 : decode prog_11_method_8_code 51 = .ok (.aload_n 1, 1) := by decide +kernel
theorem kR_move_d52 : decode prog_11_method_8_code 52 = .ok (.iload_n 2, 1) := by decide +kernel
theorem kR_move_d53 : decode prog_11_method_8_code 53 = .ok (.iload 4, 2) := by decide +kernel
theorem kR_move_d55 : decode prog_11_method_8_code 55 = .ok (.invokevirtual 83, 3) := by decide +kernel
theorem kR_move_d58 : decode prog_11_method_8_code 58 = .ok (.iconst 1, 1) := by decide +kernel
theorem kR_move_d59 : decode prog_11_method_8_code 59 = .ok (.if_icmp .ne 7, 3) := by decide +kernel
theorem kR_move_d62 : decode prog_11_method_8_code 62 = .ok (.iconst 1, 1) := by decide +kernel
theorem kR_move_d63 : decode prog_11_method_8_code 63 = .ok (.goto 21, 3) := by decide +kernel
theorem kR_move_d66 : decode prog_11_method_8_code 66 = .ok (.aload_n 0, 1) := by decide +kernel
theorem kR_move_d67 : decode prog_11_method_8_code 67 = .ok (.getfield 37, 3) := by decide +kernel
theorem kR_move_d70 : decode prog_11_method_8_code 70 = .ok (.aload_n 1, 1) := by decide +kernel
theorem kR_move_d71 : decode prog_11_method_8_code 71 = .ok (.getfield 37, 3) := by decide +kernel
theorem kR_move_d74 : decode prog_11_method_8_code 74 = .ok (.aload_n 1, 1) := by decide +kernel
theorem kR_move_d75 : decode prog_11_method_8_code 75 = .ok (.iload_n 2, 1) := by decide +kernel
theorem kR_move_d76 : decode prog_11_method_8_code 76 = .ok (.iload 4, 2) := by decide +kernel
theorem kR_move_d78 : decode prog_11_method_8_code 78 = .ok (.invokevirtual 83, 3) := by decide +kernel
theorem kR_move_d81 : decode prog_11_method_8_code 81 = .ok (.invokestatic 76, 3) := by decide +kernel
theorem kR_move_d84 : decode prog_11_method_8_code 84 = .ok (.putfield 86, 3) := by decide +kernel
theorem kR_move_d87 : decode prog_11_method_8_code 87 = .ok (.aload_n 0, 1) := by decide +kernel
theorem kR_move_d88 : decode prog_11_method_8_code 88 = .ok (.iload_n 3, 1) := by decide +kernel
theorem kR_move_d89 : decode prog_11_method_8_code 89 = .ok (.iload 4, 2) := by decide +kernel
theorem kR_move_d91 : decode prog_11_method_8_code 91 = .ok (.invokevirtual 55, 3) := by decide +kernel
theorem kR_move_d94 : decode prog_11_method_8_code 94 = .ok (.iinc 4 1, 3) := by decide +kernel
theorem kR_move_d97 : decode prog_11_method_8_code 97 = .ok (.goto (-79), 3) := by decide +kernel
theorem kR_move_d100 : decode prog_11_method_8_code 100 = .ok (.iload_n 3, 1) := by decide +kernel
theorem kR_move_d101 : decode prog_11_method_8_code 101 = .ok (.ireturn, 1) := by decide +kernel
theorem kR_across_d0 : decode prog_11_method_9_code 0 = .ok (.aload_n 1, 1) := by decide +kernel
theorem kR_across_d1 : decode prog_11_method_9_code 1 = .ok (.iload_n 2, 1) := by decide +kernel
theorem kR_across_d2 : decode prog_11_method_9_code 2 = .ok (.invokevirtual 89, 3) := by decide +kernel
theorem kR_across_d5 : decode prog_11_method_9_code 5 = .ok (.istore_n 3, 1) := by decide +kernel
theorem kR_across_d6 : decode prog_11_method_9_code 6 = .ok (.aload_n 0, 1) := by decide +kernel
theorem kR_across_d7 : decode prog_11_method_9_code 7 = .ok (.iload_n 3, 1) := by decide +kernel
theorem kR_across_d8 : decode prog_11_method_9_code 8 = .ok (.iconst 1, 1) := by decide +kernel
theorem kR_across_d9 : decode prog_11_method_9_code 9 = .ok (.iadd, 1) := by decide +kernel
theorem kR_across_d10 : decode prog_11_method_9_code 10 = .ok (.invokevirtual 92, 3) := by decide +kernel
theorem kR_across_d13 : decode prog_11_method_9_code 13 = .ok (.iconst 1, 1) := by decide +kernel
theorem kR_across_d14 : decode prog_11_method_9_code 14 = .ok (.istore 4, 2) := by decide +kernel
theorem kR_across_d16 : decode prog_11_method_9_code 16 = .ok (.iload 4, 2) := by decide +kernel
theorem kR_across_d18 : decode prog_11_method_9_code 18 = .ok (.iload_n 3, 1) := by decide +kernel
theorem kR_across_d19 : decode prog_11_method_9_code 19 = .ok (.if_icmp .gt 30, 3) := by decide +kernel
theorem kR_across_d22 : decode prog_11_method_9_code 22 = .ok (.aload_n 0, 1) := by decide +kernel
theorem kR_across_d23 : decode prog_11_method_9_code 23 = .ok (.getfield 96, 3) := by decide +kernel
theorem kR_across_d26 : decode prog_11_method_9_code 26 = .ok (.aload_n 0, 1) := by decide +kernel
theorem kR_across_d27 : decode prog_11_method_9_code 27 = .ok (.getfield 41, 3) := by decide +kernel
theorem kR_across_d30 : decode prog_11_method_9_code 30 = .ok (.iload 4, 2) := by decide +kernel
theorem kR_across_d32 : decode prog_11_method_9_code 32 = .ok (.iadd, 1) := by decide +kernel
theorem kR_across_d33 : decode prog_11_method_9_code 33 = .ok (.aload_n 1, 1) := by decide +kernel
theorem kR_across_d34 : decode prog_11_method_9_code 34 = .ok (.getfield 96, 3) := by decide +kernel
theorem kR_across_d37 : decode prog_11_method_9_code 37 = .ok (.iload_n 2, 1) := by decide +kernel
theorem kR_across_d38 : decode prog_11_method_9_code 38 = .ok (.iload 4, 2) := by decide +kernel
theorem kR_across_d40 : decode prog_11_method_9_code 40 = .ok (.iadd, 1) := by decide +kernel
theorem kR_across_d41 : decode prog_11_method_9_code 41 = .ok (.iaload, 1) := by decide +kernel
theorem kR_across_d42 : decode prog_11_method_9_code 42 = .ok (.iastore, 1) := by decide +kernel
theorem kR_across_d43 : decode prog_11_method_9_code 43 = .ok (.iinc 4 1, 3) := by decide +kernel
theorem kR_across_d46 : decode prog_11_method_9_code 46 = .ok (.goto (-30), 3) := by decide +kernel
theorem kR_across_d49 : decode prog_11_method_9_code 49 = .ok (.aload_n 0, 1) := by decide +kernel
theorem kR_across_d50 : decode prog_11_method_9_code 50 = .ok (.iload_n 3, 1) := by decide +kernel
theorem kR_across_d51 : decode prog_11_method_9_code 51 = .ok (.aload_n 1, 1) := by decide +kernel
theorem kR_across_d52 : decode prog_11_method_9_code 52 = .ok (.getfield 96, 3) := by decide +kernel
theorem kR_across_d55 : decode prog_11_method_9_code 55 = .ok (.iload_n 2, 1) := by decide +kernel
theorem kR_across_d56 : decode prog_11_method_9_code 56 = .ok (.iaload, 1) := by decide +kernel
theorem kR_across_d57 : decode prog_11_method_9_code 57 = .ok (.ifCond .ge 7, 3) := by decide +kernel
theorem kR_across_d60 : decode prog_11_method_9_code 60 = .ok (.iconst 1, 1) := by decide +kernel
theorem kR_across_d61 : decode prog_11_method_9_code 61 = .ok (.goto 4, 3) := by decide +kernel
theorem kR_across_d64 : decode prog_11_method_9_code 64 = .ok (.iconst 0, 1) := by decide +kernel
theorem kR_across_d65 : decode prog_11_method_9_code 65 = .ok (.invokevirtual 100, 3) := by decide +kernel
theorem kR_across_d68 : decode prog_11_method_9_code 68 = .ok (.ireturn, 1) := by decide +kernel
theorem kR_puts_d0 : decode prog_11_method_12_code 0 = .ok (.aload_n 0, 1) := by decide +kernel
theorem kR_puts_d1 : decode prog_11_method_12_code 1 = .ok (.getfield 10, 3) := by decide +kernel
theorem kR_puts_d4 : decode prog_11_method_12_code 4 = .ok (.iload_n 2, 1) := by decide +kernel
theorem kR_puts_d5 : decode prog_11_method_12_code 5 = .ok (.invokevirtual 63, 3) := by decide +kernel
theorem kR_puts_d8 : decode prog_11_method_12_code 8 = .ok (.bipush 16, 2) := by decide +kernel
theorem kR_puts_d10 : decode prog_11_method_12_code 10 = .ok (.if_icmp .gt 24, 3) := by decide +kernel
theorem kR_puts_d13 : decode prog_11_method_12_code 13 = .ok (.aload_n 0, 1) := by decide +kernel
theorem kR_puts_d14 : decode prog_11_method_12_code 14 = .ok (.getfield 10, 3) := by decide +kernel
theorem kR_puts_d17 : decode prog_11_method_12_code 17 = .ok (.iload_n 2, 1) := by decide +kernel
theorem kR_puts_d18 : decode prog_11_method_12_code 18 = .ok (.invokevirtual 67, 3) := by decide +kernel
theorem kR_puts_d21 : decode prog_11_method_12_code 21 = .ok (.bipush 16, 2) := by decide +kernel
theorem kR_puts_d23 : decode prog_11_method_12_code 23 = .ok (.if_icmp .gt 11, 3) := by decide +kernel
theorem kR_puts_d26 : decode prog_11_method_12_code 26 = .ok (.aload_n 0, 1) := by decide +kernel
theorem kR_puts_d27 : decode prog_11_method_12_code 27 = .ok (.iload_n 2, 1) := by decide +kernel
theorem kR_puts_d28 : decode prog_11_method_12_code 28 = .ok (.invokevirtual 120, 3) := by decide +kernel
theorem kR_puts_d31 : decode prog_11_method_12_code 31 = .ok (.goto 4, 3) := by decide +kernel
theorem kR_puts_d34 : decode prog_11_method_12_code 34 = .ok (.iconst (-1), 1) := by decide +kernel
theorem kR_puts_d35 : decode prog_11_method_12_code 35 = .ok (.istore 4, 2) := by decide +kernel
theorem kR_puts_d37 : decode prog_11_method_12_code 37 = .ok (.aload_n 0, 1) := by decide +kernel
theorem kR_puts_d38 : decode prog_11_method_12_code 38 = .ok (.iload 4, 2) := by decide +kernel
theorem kR_puts_d40 : decode prog_11_method_12_code 40 = .ok (.iconst (-1), 1) := by decide +kernel
theorem kR_puts_d41 : decode prog_11_method_12_code 41 = .ok (.if_icmp .eq 15, 3) := by decide +kernel
theorem kR_puts_d44 : decode prog_11_method_12_code 44 = .ok (.iload 4, 2) := by decide +kernel
theorem kR_puts_d46 : decode prog_11_method_12_code 46 = .ok (.sipush 20000, 3) := by decide +kernel
theorem kR_puts_d49 : decode prog_11_method_12_code 49 = .ok (.if_icmp .gt 7, 3) := by decide +kernel
theorem kR_puts_d52 : decode prog_11_method_12_code 52 = .ok (.iconst 0, 1) := by decide +kernel
theorem kR_puts_d53 : decode prog_11_method_12_code 53 = .ok (.goto 4, 3) := by decide +kernel
theorem kR_puts_d56 : decode prog_11_method_12_code 56 = .ok (.iload_n 3, 1) := by decide +kernel
theorem kR_puts_d57 : decode prog_11_method_12_code 57 = .ok (.invokevirtual 123, 3) := by decide +kernel
theorem kR_puts_d60 : decode prog_11_method_12_code 60 = .ok (.ifCond .eq 5, 3) := by decide +kernel
theorem kR_puts_d63 : decode prog_11_method_12_code 63 = .ok (.iconst 0, 1) := by decide +kernel
theorem kR_puts_d64 : decode prog_11_method_12_code 64 = .ok (.ireturn, 1) := by decide +kernel
theorem kR_puts_d65 : decode prog_11_method_12_code 65 = .ok (.aload_n 0, 1) := by decide +kernel
theorem kR_puts_d66 : decode prog_11_method_12_code 66 = .ok (.getfield 25, 3) := by decide +kernel
theorem kR_puts_d69 : decode prog_11_method_12_code 69 = .ok (.iload_n 1, 1) := by decide +kernel
theorem kR_puts_d70 : decode prog_11_method_12_code 70 = .ok (.aaload, 1) := by decide +kernel
theorem kR_puts_d71 : decode prog_11_method_12_code 71 = .ok (.astore 5, 2) := by decide +kernel
theorem kR_puts_d73 : decode prog_11_method_12_code 73 = .ok (.aload 5, 2) := by decide +kernel
theorem kR_puts_d75 : decode prog_11_method_12_code 75 = .ok (.getfield 37, 3) := by decide +kernel
theorem kR_puts_d78 : decode prog_11_method_12_code 78 = .ok (.iconst 3, 1) := by decide +kernel
theorem kR_puts_d79 : decode prog_11_method_12_code 79 = .ok (.putfield 41, 3) := by decide +kernel
theorem kR_puts_d82 : decode prog_11_method_12_code 82 = .ok (.aload 5, 2) := by decide +kernel
theorem kR_puts_d84 : decode prog_11_method_12_code 84 = .ok (.iconst 0, 1) := by decide +kernel
theorem kR_puts_d85 : decode prog_11_method_12_code 85 = .ok (.putfield 46, 3) := by decide +kernel
theorem kR_puts_d88 : decode prog_11_method_12_code 88 = .ok (.aload 5, 2) := by decide +kernel
theorem kR_puts_d90 : decode prog_11_method_12_code 90 = .ok (.aload_n 0, 1) := by decide +kernel
theorem kR_puts_d91 : decode prog_11_method_12_code 91 = .ok (.getfield 10, 3) := by decide +kernel
theorem kR_puts_d94 : decode prog_11_method_12_code 94 = .ok (.iload_n 2, 1) := by decide +kernel
theorem kR_puts_d95 : decode prog_11_method_12_code 95 = .ok (.invokestatic 59, 3) := by decide +kernel
theorem kR_puts_d98 : decode prog_11_method_12_code 98 = .ok (.pop, 1) := by decide +kernel
theorem kR_puts_d99 : decode prog_11_method_12_code 99 = .ok (.iconst 1, 1) := by decide +kernel
theorem kR_puts_d100 : decode prog_11_method_12_code 100 = .ok (.ireturn, 1) := by decide +kernel
theorem kR_limbsOf_d0 : decode prog_11_method_11_code 0 = .ok (.aload_n 0, 1) := by decide +kernel
theorem kR_limbsOf_d1 : decode prog_11_method_11_code 1 = .ok (.getfield 10, 3) := by decide +kernel
theorem kR_limbsOf_d4 : decode prog_11_method_11_code 4 = .ok (.getfield 37, 3) := by decide +kernel
theorem kR_limbsOf_d7 : decode prog_11_method_11_code 7 = .ok (.getfield 41, 3) := by decide +kernel
theorem kR_limbsOf_d10 : decode prog_11_method_11_code 10 = .ok (.istore_n 2, 1) := by decide +kernel
theorem kR_limbsOf_d11 : decode prog_11_method_11_code 11 = .ok (.iconst 1, 1) := by decide +kernel
theorem kR_limbsOf_d12 : decode prog_11_method_11_code 12 = .ok (.istore_n 3, 1) := by decide +kernel
theorem kR_limbsOf_d13 : decode prog_11_method_11_code 13 = .ok (.iconst 0, 1) := by decide +kernel
theorem kR_limbsOf_d14 : decode prog_11_method_11_code 14 = .ok (.istore 4, 2) := by decide +kernel
theorem kR_limbsOf_d16 : decode prog_11_method_11_code 16 = .ok (.iload 4, 2) := by decide +kernel
theorem kR_limbsOf_d18 : decode prog_11_method_11_code 18 = .ok (.aload_n 0, 1) := by decide +kernel
theorem kR_limbsOf_d19 : decode prog_11_method_11_code 19 = .ok (.getfield 10, 3) := by decide +kernel
theorem kR_limbsOf_d22 : decode prog_11_method_11_code 22 = .ok (.iload_n 1, 1) := by decide +kernel
theorem kR_limbsOf_d23 : decode prog_11_method_11_code 23 = .ok (.invokevirtual 70, 3) := by decide +kernel
theorem kR_limbsOf_d26 : decode prog_11_method_11_code 26 = .ok (.if_icmp .ge 76, 3) := by decide +kernel
theorem kR_limbsOf_d29 : decode prog_11_method_11_code 29 = .ok (.aload_n 0, 1) := by decide +kernel
theorem kR_limbsOf_d30 : decode prog_11_method_11_code 30 = .ok (.getfield 10, 3) := by decide +kernel
theorem kR_limbsOf_d33 : decode prog_11_method_11_code 33 = .ok (.iload_n 1, 1) := by decide +kernel
theorem kR_limbsOf_d34 : decode prog_11_method_11_code 34 = .ok (.iload 4, 2) := by decide +kernel
theorem kR_limbsOf_d36 : decode prog_11_method_11_code 36 = .ok (.invokevirtual 83, 3) := by decide +kernel
theorem kR_limbsOf_d39 : decode prog_11_method_11_code 39 = .ok (.iconst 1, 1) := by decide +kernel
theorem kR_limbsOf_d40 : decode prog_11_method_11_code 40 = .ok (.if_icmp .eq 26, 3) := by decide +kernel
theorem kR_limbsOf_d43 : decode prog_11_method_11_code 43 = .ok (.aload_n 0, 1) := by decide +kernel
theorem kR_limbsOf_d44 : decode prog_11_method_11_code 44 = .ok (.getfield 10, 3) := by decide +kernel
theorem kR_limbsOf_d47 : decode prog_11_method_11_code 47 = .ok (.getfield 37, 3) := by decide +kernel
theorem kR_limbsOf_d50 : decode prog_11_method_11_code 50 = .ok (.iload_n 3, 1) := by decide +kernel
theorem kR_limbsOf_d51 : decode prog_11_method_11_code 51 = .ok (.aload_n 0, 1) := by decide +kernel
theorem kR_limbsOf_d52 : decode prog_11_method_11_code 52 = .ok (.getfield 10, 3) := by decide +kernel
theorem kR_limbsOf_d55 : decode prog_11_method_11_code 55 = .ok (.iload_n 1, 1) := by decide +kernel
theorem kR_limbsOf_d56 : decode prog_11_method_11_code 56 = .ok (.iload 4, 2) := by decide +kernel
theorem kR_limbsOf_d58 : decode prog_11_method_11_code 58 = .ok (.invokevirtual 83, 3) := by decide +kernel
theorem kR_limbsOf_d61 : decode prog_11_method_11_code 61 = .ok (.iload_n 2, 1) := by decide +kernel
theorem kR_limbsOf_d62 : decode prog_11_method_11_code 62 = .ok (.invokevirtual 104, 3) := by decide +kernel
theorem kR_limbsOf_d65 : decode prog_11_method_11_code 65 = .ok (.istore_n 3, 1) := by decide +kernel
theorem kR_limbsOf_d66 : decode prog_11_method_11_code 66 = .ok (.aload_n 0, 1) := by decide +kernel
theorem kR_limbsOf_d67 : decode prog_11_method_11_code 67 = .ok (.getfield 10, 3) := by decide +kernel
theorem kR_limbsOf_d70 : decode prog_11_method_11_code 70 = .ok (.getfield 37, 3) := by decide +kernel
theorem kR_limbsOf_d73 : decode prog_11_method_11_code 73 = .ok (.iload_n 3, 1) := by decide +kernel
theorem kR_limbsOf_d74 : decode prog_11_method_11_code 74 = .ok (.invokevirtual 108, 3) := by decide +kernel
theorem kR_limbsOf_d77 : decode prog_11_method_11_code 77 = .ok (.sipush 4000, 3) := by decide +kernel
theorem kR_limbsOf_d80 : decode prog_11_method_11_code 80 = .ok (.if_icmp .le 16, 3) := by decide +kernel
theorem kR_limbsOf_d83 : decode prog_11_method_11_code 83 = .ok (.aload_n 0, 1) := by decide +kernel
theorem kR_limbsOf_d84 : decode prog_11_method_11_code 84 = .ok (.getfield 10, 3) := by decide +kernel
theorem kR_limbsOf_d87 : decode prog_11_method_11_code 87 = .ok (.getfield 37, 3) := by decide +kernel
theorem kR_limbsOf_d90 : decode prog_11_method_11_code 90 = .ok (.iload_n 2, 1) := by decide +kernel
theorem kR_limbsOf_d91 : decode prog_11_method_11_code 91 = .ok (.putfield 41, 3) := by decide +kernel
theorem kR_limbsOf_d94 : decode prog_11_method_11_code 94 = .ok (.iconst (-1), 1) := by decide +kernel
theorem kR_limbsOf_d95 : decode prog_11_method_11_code 95 = .ok (.ireturn, 1) := by decide +kernel
theorem kR_limbsOf_d96 : decode prog_11_method_11_code 96 = .ok (.iinc 4 1, 3) := by decide +kernel
theorem kR_limbsOf_d99 : decode prog_11_method_11_code 99 = .ok (.goto (-83), 3) := by decide +kernel
theorem kR_limbsOf_d102 : decode prog_11_method_11_code 102 = .ok (.aload_n 0, 1) := by decide +kernel
theorem kR_limbsOf_d103 : decode prog_11_method_11_code 103 = .ok (.getfield 10, 3) := by decide +kernel
theorem kR_limbsOf_d106 : decode prog_11_method_11_code 106 = .ok (.getfield 37, 3) := by decide +kernel
theorem kR_limbsOf_d109 : decode prog_11_method_11_code 109 = .ok (.iload_n 3, 1) := by decide +kernel
theorem kR_limbsOf_d110 : decode prog_11_method_11_code 110 = .ok (.invokevirtual 108, 3) := by decide +kernel
theorem kR_limbsOf_d113 : decode prog_11_method_11_code 113 = .ok (.invokestatic 111, 3) := by decide +kernel
theorem kR_limbsOf_d116 : decode prog_11_method_11_code 116 = .ok (.istore 4, 2) := by decide +kernel
theorem kR_limbsOf_d118 : decode prog_11_method_11_code 118 = .ok (.aload_n 0, 1) := by decide +kernel
theorem kR_limbsOf_d119 : decode prog_11_method_11_code 119 = .ok (.getfield 10, 3) := by decide +kernel
theorem kR_limbsOf_d122 : decode prog_11_method_11_code 122 = .ok (.getfield 37, 3) := by decide +kernel
theorem kR_limbsOf_d125 : decode prog_11_method_11_code 125 = .ok (.getfield 41, 3) := by decide +kernel
theorem kR_limbsOf_d128 : decode prog_11_method_11_code 128 = .ok (.istore 5, 2) := by decide +kernel
theorem kR_limbsOf_d130 : decode prog_11_method_11_code 130 = .ok (.iconst 0, 1) := by decide +kernel
theorem kR_limbsOf_d131 : decode prog_11_method_11_code 131 = .ok (.istore 6, 2) := by decide +kernel
theorem kR_limbsOf_d133 : decode prog_11_method_11_code 133 = .ok (.iload 6, 2) := by decide +kernel
theorem kR_limbsOf_d135 : decode prog_11_method_11_code 135 = .ok (.aload_n 0, 1) := by decide +kernel
theorem kR_limbsOf_d136 : decode prog_11_method_11_code 136 = .ok (.getfield 10, 3) := by decide +kernel
theorem kR_limbsOf_d139 : decode prog_11_method_11_code 139 = .ok (.iload_n 1, 1) := by decide +kernel
theorem kR_limbsOf_d140 : decode prog_11_method_11_code 140 = .ok (.invokevirtual 70, 3) := by decide +kernel
theorem kR_limbsOf_d143 : decode prog_11_method_11_code 143 = .ok (.if_icmp .ge 102, 3) := by decide +kernel
theorem kR_limbsOf_d146 : decode prog_11_method_11_code 146 = .ok (.iload 4, 2) := by decide +kernel
theorem kR_limbsOf_d148 : decode prog_11_method_11_code 148 = .ok (.iconst (-1), 1) := by decide +kernel
theorem kR_limbsOf_d149 : decode prog_11_method_11_code 149 = .ok (.if_icmp .eq 96, 3) := by decide +kernel
theorem kR_limbsOf_d152 : decode prog_11_method_11_code 152 = .ok (.aload_n 0, 1) := by decide +kernel
theorem kR_limbsOf_d153 : decode prog_11_method_11_code 153 = .ok (.getfield 10, 3) := by decide +kernel
theorem kR_limbsOf_d156 : decode prog_11_method_11_code 156 = .ok (.getfield 37, 3) := by decide +kernel
theorem kR_limbsOf_d159 : decode prog_11_method_11_code 159 = .ok (.aload_n 0, 1) := by decide +kernel
theorem kR_limbsOf_d160 : decode prog_11_method_11_code 160 = .ok (.getfield 10, 3) := by decide +kernel
theorem kR_limbsOf_d163 : decode prog_11_method_11_code 163 = .ok (.getfield 37, 3) := by decide +kernel
theorem kR_limbsOf_d166 : decode prog_11_method_11_code 166 = .ok (.aload_n 0, 1) := by decide +kernel
theorem kR_limbsOf_d167 : decode prog_11_method_11_code 167 = .ok (.getfield 10, 3) := by decide +kernel
theorem kR_limbsOf_d170 : decode prog_11_method_11_code 170 = .ok (.getfield 37, 3) := by decide +kernel
theorem kR_limbsOf_d173 : decode prog_11_method_11_code 173 = .ok (.iload_n 3, 1) := by decide +kernel
theorem kR_limbsOf_d174 : decode prog_11_method_11_code 174 = .ok (.aload_n 0, 1) := by decide +kernel
theorem kR_limbsOf_d175 : decode prog_11_method_11_code 175 = .ok (.getfield 10, 3) := by decide +kernel
theorem kR_limbsOf_d178 : decode prog_11_method_11_code 178 = .ok (.iload_n 1, 1) := by decide +kernel
theorem kR_limbsOf_d179 : decode prog_11_method_11_code 179 = .ok (.iload 6, 2) := by decide +kernel
theorem kR_limbsOf_d181 : decode prog_11_method_11_code 181 = .ok (.invokevirtual 83, 3) := by decide +kernel
theorem kR_limbsOf_d184 : decode prog_11_method_11_code 184 = .ok (.invokevirtual 114, 3) := by decide +kernel
theorem kR_limbsOf_d187 : decode prog_11_method_11_code 187 = .ok (.aload_n 0, 1) := by decide +kernel
theorem kR_limbsOf_d188 : decode prog_11_method_11_code 188 = .ok (.getfield 10, 3) := by decide +kernel
theorem kR_limbsOf_d191 : decode prog_11_method_11_code 191 = .ok (.iload_n 1, 1) := by decide +kernel
theorem kR_limbsOf_d192 : decode prog_11_method_11_code 192 = .ok (.iload 6, 2) := by decide +kernel
theorem kR_limbsOf_d194 : decode prog_11_method_11_code 194 = .ok (.invokevirtual 73, 3) := by decide +kernel
theorem kR_limbsOf_d197 : decode prog_11_method_11_code 197 = .ok (.invokevirtual 117, 3) := by decide +kernel
theorem kR_limbsOf_d200 : decode prog_11_method_11_code 200 = .ok (.invokevirtual 108, 3) := by decide +kernel
theorem kR_limbsOf_d203 : decode prog_11_method_11_code 203 = .ok (.istore 7, 2) := by decide +kernel
theorem kR_limbsOf_d205 : decode prog_11_method_11_code 205 = .ok (.iload 7, 2) := by decide +kernel
theorem kR_limbsOf_d207 : decode prog_11_method_11_code 207 = .ok (.sipush 4000, 3) := by decide +kernel
theorem kR_limbsOf_d210 : decode prog_11_method_11_code 210 = .ok (.if_icmp .le 7, 3) := by decide +kernel
theorem kR_limbsOf_d213 : decode prog_11_method_11_code 213 = .ok (.iconst (-1), 1) := by decide +kernel
theorem kR_limbsOf_d214 : decode prog_11_method_11_code 214 = .ok (.goto 11, 3) := by decide +kernel
theorem kR_limbsOf_d217 : decode prog_11_method_11_code 217 = .ok (.iload 4, 2) := by decide +kernel
theorem kR_limbsOf_d219 : decode prog_11_method_11_code 219 = .ok (.iload 7, 2) := by decide +kernel
theorem kR_limbsOf_d221 : decode prog_11_method_11_code 221 = .ok (.invokestatic 111, 3) := by decide +kernel
theorem kR_limbsOf_d224 : decode prog_11_method_11_code 224 = .ok (.iadd, 1) := by decide +kernel
theorem kR_limbsOf_d225 : decode prog_11_method_11_code 225 = .ok (.istore 4, 2) := by decide +kernel
theorem kR_limbsOf_d227 : decode prog_11_method_11_code 227 = .ok (.aload_n 0, 1) := by decide +kernel
theorem kR_limbsOf_d228 : decode prog_11_method_11_code 228 = .ok (.getfield 10, 3) := by decide +kernel
theorem kR_limbsOf_d231 : decode prog_11_method_11_code 231 = .ok (.getfield 37, 3) := by decide +kernel
theorem kR_limbsOf_d234 : decode prog_11_method_11_code 234 = .ok (.iload 5, 2) := by decide +kernel
theorem kR_limbsOf_d236 : decode prog_11_method_11_code 236 = .ok (.putfield 41, 3) := by decide +kernel
theorem kR_limbsOf_d239 : decode prog_11_method_11_code 239 = .ok (.iinc 6 1, 3) := by decide +kernel
theorem kR_limbsOf_d242 : decode prog_11_method_11_code 242 = .ok (.goto (-109), 3) := by decide +kernel
theorem kR_limbsOf_d245 : decode prog_11_method_11_code 245 = .ok (.aload_n 0, 1) := by decide +kernel
theorem kR_limbsOf_d246 : decode prog_11_method_11_code 246 = .ok (.getfield 10, 3) := by decide +kernel
theorem kR_limbsOf_d249 : decode prog_11_method_11_code 249 = .ok (.getfield 37, 3) := by decide +kernel
theorem kR_limbsOf_d252 : decode prog_11_method_11_code 252 = .ok (.iload_n 2, 1) := by decide +kernel
theorem kR_limbsOf_d253 : decode prog_11_method_11_code 253 = .ok (.putfield 41, 3) := by decide +kernel
theorem kR_limbsOf_d256 : decode prog_11_method_11_code 256 = .ok (.iload 4, 2) := by decide +kernel
theorem kR_limbsOf_d258 : decode prog_11_method_11_code 258 = .ok (.ireturn, 1) := by decide +kernel
theorem kR_limbs_d0 : decode prog_11_method_10_code 0 = .ok (.iload_n 0, 1) := by decide +kernel
theorem kR_limbs_d1 : decode prog_11_method_10_code 1 = .ok (.bipush 31, 2) := by decide +kernel
theorem kR_limbs_d3 : decode prog_11_method_10_code 3 = .ok (.iadd, 1) := by decide +kernel
theorem kR_limbs_d4 : decode prog_11_method_10_code 4 = .ok (.bipush 32, 2) := by decide +kernel
theorem kR_limbs_d6 : decode prog_11_method_10_code 6 = .ok (.idiv, 1) := by decide +kernel
theorem kR_limbs_d7 : decode prog_11_method_10_code 7 = .ok (.ireturn, 1) := by decide +kernel
theorem kR_unit_d0 : decode prog_11_method_19_code 0 = .ok (.aload_n 0, 1) := by decide +kernel
theorem kR_unit_d1 : decode prog_11_method_19_code 1 = .ok (.iload_n 1, 1) := by decide +kernel
theorem kR_unit_d2 : decode prog_11_method_19_code 2 = .ok (.invokestatic 141, 3) := by decide +kernel
theorem kR_unit_d5 : decode prog_11_method_19_code 5 = .ok (.ifCond .ne 7, 3) := by decide +kernel
theorem kR_unit_d8 : decode prog_11_method_19_code 8 = .ok (.iconst 1, 1) := by decide +kernel
theorem kR_unit_d9 : decode prog_11_method_19_code 9 = .ok (.goto 19, 3) := by decide +kernel
theorem kR_unit_d12 : decode prog_11_method_19_code 12 = .ok (.iload_n 2, 1) := by decide +kernel
theorem kR_unit_d13 : decode prog_11_method_19_code 13 = .ok (.iconst 1, 1) := by decide +kernel
theorem kR_unit_d14 : decode prog_11_method_19_code 14 = .ok (.if_icmp .lt 9, 3) := by decide +kernel
theorem kR_unit_d17 : decode prog_11_method_19_code 17 = .ok (.iload_n 2, 1) := by decide +kernel
theorem kR_unit_d18 : decode prog_11_method_19_code 18 = .ok (.bipush 16, 2) := by decide +kernel
theorem kR_unit_d20 : decode prog_11_method_19_code 20 = .ok (.if_icmp .le 7, 3) := by decide +kernel
theorem kR_unit_d23 : decode prog_11_method_19_code 23 = .ok (.iconst 2, 1) := by decide +kernel
theorem kR_unit_d24 : decode prog_11_method_19_code 24 = .ok (.goto 4, 3) := by decide +kernel
theorem kR_unit_d27 : decode prog_11_method_19_code 27 = .ok (.iconst 0, 1) := by decide +kernel
theorem kR_unit_d28 : decode prog_11_method_19_code 28 = .ok (.invokevirtual 123, 3) := by decide +kernel
theorem kR_unit_d31 : decode prog_11_method_19_code 31 = .ok (.ifCond .eq 4, 3) := by decide +kernel
theorem kR_unit_d34 : decode prog_11_method_19_code 34 = .ok (.return_, 1) := by decide +kernel
theorem kR_unit_d35 : decode prog_11_method_19_code 35 = .ok (.aload_n 0, 1) := by decide +kernel
theorem kR_unit_d36 : decode prog_11_method_19_code 36 = .ok (.invokevirtual 148, 3) := by decide +kernel
theorem kR_unit_d39 : decode prog_11_method_19_code 39 = .ok (.aload_n 0, 1) := by decide +kernel
theorem kR_unit_d40 : decode prog_11_method_19_code 40 = .ok (.iload_n 1, 1) := by decide +kernel
theorem kR_unit_d41 : decode prog_11_method_19_code 41 = .ok (.aload_n 0, 1) := by decide +kernel
theorem kR_unit_d42 : decode prog_11_method_19_code 42 = .ok (.getfield 10, 3) := by decide +kernel
theorem kR_unit_d45 : decode prog_11_method_19_code 45 = .ok (.iload_n 2, 1) := by decide +kernel
theorem kR_unit_d46 : decode prog_11_method_19_code 46 = .ok (.invokevirtual 167, 3) := by decide +kernel
theorem kR_unit_d49 : decode prog_11_method_19_code 49 = .ok (.iconst 3, 1) := by decide +kernel
theorem kR_unit_d50 : decode prog_11_method_19_code 50 = .ok (.invokevirtual 164, 3) := by decide +kernel
theorem kR_unit_d53 : decode prog_11_method_19_code 53 = .ok (.pop, 1) := by decide +kernel
theorem kR_unit_d54 : decode prog_11_method_19_code 54 = .ok (.return_, 1) := by decide +kernel
theorem kR_add_d0 : decode prog_11_method_20_code 0 = .ok (.aload_n 0, 1) := by decide +kernel
theorem kR_add_d1 : decode prog_11_method_20_code 1 = .ok (.iload_n 1, 1) := by decide +kernel
theorem kR_add_d2 : decode prog_11_method_20_code 2 = .ok (.invokestatic 141, 3) := by decide +kernel
theorem kR_add_d5 : decode prog_11_method_20_code 5 = .ok (.ifCond .eq 21, 3) := by decide +kernel
theorem kR_add_d8 : decode prog_11_method_20_code 8 = .ok (.iload_n 2, 1) := by decide +kernel
theorem kR_add_d9 : decode prog_11_method_20_code 9 = .ok (.invokestatic 141, 3) := by decide +kernel
theorem kR_add_d12 : decode prog_11_method_20_code 12 = .ok (.ifCond .eq 14, 3) := by decide +kernel
theorem kR_add_d15 : decode prog_11_method_20_code 15 = .ok (.iload_n 3, 1) := by decide +kernel
theorem kR_add_d16 : decode prog_11_method_20_code 16 = .ok (.invokestatic 141, 3) := by decide +kernel
theorem kR_add_d19 : decode prog_11_method_20_code 19 = .ok (.ifCond .eq 7, 3) := by decide +kernel
theorem kR_add_d22 : decode prog_11_method_20_code 22 = .ok (.iconst 0, 1) := by decide +kernel
theorem kR_add_d23 : decode prog_11_method_20_code 23 = .ok (.goto 4, 3) := by decide +kernel
theorem kR_add_d26 : decode prog_11_method_20_code 26 = .ok (.iconst 1, 1) := by decide +kernel
theorem kR_add_d27 : decode prog_11_method_20_code 27 = .ok (.invokevirtual 123, 3) := by decide +kernel
theorem kR_add_d30 : decode prog_11_method_20_code 30 = .ok (.ifCond .eq 4, 3) := by decide +kernel
theorem kR_add_d33 : decode prog_11_method_20_code 33 = .ok (.return_, 1) := by decide +kernel
theorem kR_add_d34 : decode prog_11_method_20_code 34 = .ok (.aload_n 0, 1) := by decide +kernel
theorem kR_add_d35 : decode prog_11_method_20_code 35 = .ok (.invokevirtual 148, 3) := by decide +kernel
theorem kR_add_d38 : decode prog_11_method_20_code 38 = .ok (.aload_n 0, 1) := by decide +kernel
theorem kR_add_d39 : decode prog_11_method_20_code 39 = .ok (.iload_n 2, 1) := by decide +kernel
theorem kR_add_d40 : decode prog_11_method_20_code 40 = .ok (.invokevirtual 151, 3) := by decide +kernel
theorem kR_add_d43 : decode prog_11_method_20_code 43 = .ok (.istore 5, 2) := by decide +kernel
theorem kR_add_d45 : decode prog_11_method_20_code 45 = .ok (.aload_n 0, 1) := by decide +kernel
theorem kR_add_d46 : decode prog_11_method_20_code 46 = .ok (.iload_n 3, 1) := by decide +kernel
theorem kR_add_d47 : decode prog_11_method_20_code 47 = .ok (.invokevirtual 151, 3) := by decide +kernel
theorem kR_add_d50 : decode prog_11_method_20_code 50 = .ok (.istore 6, 2) := by decide +kernel
theorem kR_add_d52 : decode prog_11_method_20_code 52 = .ok (.aload_n 0, 1) := by decide +kernel
theorem kR_add_d53 : decode prog_11_method_20_code 53 = .ok (.aload_n 0, 1) := by decide +kernel
theorem kR_add_d54 : decode prog_11_method_20_code 54 = .ok (.getfield 10, 3) := by decide +kernel
theorem kR_add_d57 : decode prog_11_method_20_code 57 = .ok (.iload 5, 2) := by decide +kernel
theorem kR_add_d59 : decode prog_11_method_20_code 59 = .ok (.invokevirtual 63, 3) := by decide +kernel
theorem kR_add_d62 : decode prog_11_method_20_code 62 = .ok (.aload_n 0, 1) := by decide +kernel
theorem kR_add_d63 : decode prog_11_method_20_code 63 = .ok (.getfield 10, 3) := by decide +kernel
theorem kR_add_d66 : decode prog_11_method_20_code 66 = .ok (.iload 6, 2) := by decide +kernel
theorem kR_add_d68 : decode prog_11_method_20_code 68 = .ok (.invokevirtual 63, 3) := by decide +kernel
theorem kR_add_d71 : decode prog_11_method_20_code 71 = .ok (.if_icmp .ne 28, 3) := by decide +kernel
theorem kR_add_d74 : decode prog_11_method_20_code 74 = .ok (.aload_n 0, 1) := by decide +kernel
theorem kR_add_d75 : decode prog_11_method_20_code 75 = .ok (.getfield 10, 3) := by decide +kernel
theorem kR_add_d78 : decode prog_11_method_20_code 78 = .ok (.iload 5, 2) := by decide +kernel
theorem kR_add_d80 : decode prog_11_method_20_code 80 = .ok (.invokevirtual 67, 3) := by decide +kernel
theorem kR_add_d83 : decode prog_11_method_20_code 83 = .ok (.aload_n 0, 1) := by decide +kernel
theorem kR_add_d84 : decode prog_11_method_20_code 84 = .ok (.getfield 10, 3) := by decide +kernel
theorem kR_add_d87 : decode prog_11_method_20_code 87 = .ok (.iload 6, 2) := by decide +kernel
theorem kR_add_d89 : decode prog_11_method_20_code 89 = .ok (.invokevirtual 67, 3) := by decide +kernel
theorem kR_add_d92 : decode prog_11_method_20_code 92 = .ok (.if_icmp .ne 7, 3) := by decide +kernel
theorem kR_add_d95 : decode prog_11_method_20_code 95 = .ok (.iconst 0, 1) := by decide +kernel
theorem kR_add_d96 : decode prog_11_method_20_code 96 = .ok (.goto 4, 3) := by decide +kernel
theorem kR_add_d99 : decode prog_11_method_20_code 99 = .ok (.iconst 2, 1) := by decide +kernel
theorem kR_add_d100 : decode prog_11_method_20_code 100 = .ok (.invokevirtual 123, 3) := by decide +kernel
theorem kR_add_d103 : decode prog_11_method_20_code 103 = .ok (.ifCond .eq 4, 3) := by decide +kernel
theorem kR_add_d106 : decode prog_11_method_20_code 106 = .ok (.return_, 1) := by decide +kernel
theorem kR_add_d107 : decode prog_11_method_20_code 107 = .ok (.aload_n 0, 1) := by decide +kernel
theorem kR_add_d108 : decode prog_11_method_20_code 108 = .ok (.iload_n 1, 1) := by decide +kernel
theorem kR_add_d109 : decode prog_11_method_20_code 109 = .ok (.aload_n 0, 1) := by decide +kernel
theorem kR_add_d110 : decode prog_11_method_20_code 110 = .ok (.getfield 10, 3) := by decide +kernel
theorem kR_add_d113 : decode prog_11_method_20_code 113 = .ok (.iload 5, 2) := by decide +kernel
theorem kR_add_d115 : decode prog_11_method_20_code 115 = .ok (.iload 6, 2) := by decide +kernel
theorem kR_add_d117 : decode prog_11_method_20_code 117 = .ok (.iload 4, 2) := by decide +kernel
theorem kR_add_d119 : decode prog_11_method_20_code 119 = .ok (.invokevirtual 170, 3) := by decide +kernel
theorem kR_add_d122 : decode prog_11_method_20_code 122 = .ok (.iconst 3, 1) := by decide +kernel
theorem kR_add_d123 : decode prog_11_method_20_code 123 = .ok (.invokevirtual 164, 3) := by decide +kernel
theorem kR_add_d126 : decode prog_11_method_20_code 126 = .ok (.pop, 1) := by decide +kernel
theorem kR_add_d127 : decode prog_11_method_20_code 127 = .ok (.return_, 1) := by decide +kernel
theorem kR_multiply_d0 : decode prog_11_method_21_code 0 = .ok (.aload_n 0, 1) := by decide +kernel
theorem kR_multiply_d1 : decode prog_11_method_21_code 1 = .ok (.iload_n 1, 1) := by decide +kernel
theorem kR_multiply_d2 : decode prog_11_method_21_code 2 = .ok (.invokestatic 141, 3) := by decide +kernel
theorem kR_multiply_d5 : decode prog_11_method_21_code 5 = .ok (.ifCond .eq 21, 3) := by decide +kernel
theorem kR_multiply_d8 : decode prog_11_method_21_code 8 = .ok (.iload_n 2, 1) := by decide +kernel
theorem kR_multiply_d9 : decode prog_11_method_21_code 9 = .ok (.invokestatic 141, 3) := by decide +kernel
theorem kR_multiply_d12 : decode prog_11_method_21_code 12 = .ok (.ifCond .eq 14, 3) := by decide +kernel
theorem kR_multiply_d15 : decode prog_11_method_21_code 15 = .ok (.iload_n 3, 1) := by decide +kernel
theorem kR_multiply_d16 : decode prog_11_method_21_code 16 = .ok (.invokestatic 141, 3) := by decide +kernel
theorem kR_multiply_d19 : decode prog_11_method_21_code 19 = .ok (.ifCond .eq 7, 3) := by decide +kernel
theorem kR_multiply_d22 : decode prog_11_method_21_code 22 = .ok (.iconst 0, 1) := by decide +kernel
theorem kR_multiply_d23 : decode prog_11_method_21_code 23 = .ok (.goto 4, 3) := by decide +kernel
theorem kR_multiply_d26 : decode prog_11_method_21_code 26 = .ok (.iconst 1, 1) := by decide +kernel
theorem kR_multiply_d27 : decode prog_11_method_21_code 27 = .ok (.invokevirtual 123, 3) := by decide +kernel
theorem kR_multiply_d30 : decode prog_11_method_21_code 30 = .ok (.ifCond .eq 4, 3) := by decide +kernel
theorem kR_multiply_d33 : decode prog_11_method_21_code 33 = .ok (.return_, 1) := by decide +kernel
theorem kR_multiply_d34 : decode prog_11_method_21_code 34 = .ok (.aload_n 0, 1) := by decide +kernel
theorem kR_multiply_d35 : decode prog_11_method_21_code 35 = .ok (.invokevirtual 148, 3) := by decide +kernel
theorem kR_multiply_d38 : decode prog_11_method_21_code 38 = .ok (.aload_n 0, 1) := by decide +kernel
theorem kR_multiply_d39 : decode prog_11_method_21_code 39 = .ok (.iload_n 2, 1) := by decide +kernel
theorem kR_multiply_d40 : decode prog_11_method_21_code 40 = .ok (.invokevirtual 151, 3) := by decide +kernel
theorem kR_multiply_d43 : decode prog_11_method_21_code 43 = .ok (.istore 4, 2) := by decide +kernel
theorem kR_multiply_d45 : decode prog_11_method_21_code 45 = .ok (.aload_n 0, 1) := by decide +kernel
theorem kR_multiply_d46 : decode prog_11_method_21_code 46 = .ok (.iload_n 3, 1) := by decide +kernel
theorem kR_multiply_d47 : decode prog_11_method_21_code 47 = .ok (.invokevirtual 151, 3) := by decide +kernel
theorem kR_multiply_d50 : decode prog_11_method_21_code 50 = .ok (.istore 5, 2) := by decide +kernel
theorem kR_multiply_d52 : decode prog_11_method_21_code 52 = .ok (.aload_n 0, 1) := by decide +kernel
theorem kR_multiply_d53 : decode prog_11_method_21_code 53 = .ok (.aload_n 0, 1) := by decide +kernel
theorem kR_multiply_d54 : decode prog_11_method_21_code 54 = .ok (.getfield 10, 3) := by decide +kernel
theorem kR_multiply_d57 : decode prog_11_method_21_code 57 = .ok (.iload 4, 2) := by decide +kernel
theorem kR_multiply_d59 : decode prog_11_method_21_code 59 = .ok (.invokevirtual 67, 3) := by decide +kernel
theorem kR_multiply_d62 : decode prog_11_method_21_code 62 = .ok (.aload_n 0, 1) := by decide +kernel
theorem kR_multiply_d63 : decode prog_11_method_21_code 63 = .ok (.getfield 10, 3) := by decide +kernel
theorem kR_multiply_d66 : decode prog_11_method_21_code 66 = .ok (.iload 5, 2) := by decide +kernel
theorem kR_multiply_d68 : decode prog_11_method_21_code 68 = .ok (.invokevirtual 63, 3) := by decide +kernel
theorem kR_multiply_d71 : decode prog_11_method_21_code 71 = .ok (.if_icmp .ne 7, 3) := by decide +kernel
theorem kR_multiply_d74 : decode prog_11_method_21_code 74 = .ok (.iconst 0, 1) := by decide +kernel
theorem kR_multiply_d75 : decode prog_11_method_21_code 75 = .ok (.goto 4, 3) := by decide +kernel
theorem kR_multiply_d78 : decode prog_11_method_21_code 78 = .ok (.iconst 2, 1) := by decide +kernel
theorem kR_multiply_d79 : decode prog_11_method_21_code 79 = .ok (.invokevirtual 123, 3) := by decide +kernel
theorem kR_multiply_d82 : decode prog_11_method_21_code 82 = .ok (.ifCond .eq 4, 3) := by decide +kernel
theorem kR_multiply_d85 : decode prog_11_method_21_code 85 = .ok (.return_, 1) := by decide +kernel
theorem kR_multiply_d86 : decode prog_11_method_21_code 86 = .ok (.aload_n 0, 1) := by decide +kernel
theorem kR_multiply_d87 : decode prog_11_method_21_code 87 = .ok (.iload_n 1, 1) := by decide +kernel
theorem kR_multiply_d88 : decode prog_11_method_21_code 88 = .ok (.aload_n 0, 1) := by decide +kernel
theorem kR_multiply_d89 : decode prog_11_method_21_code 89 = .ok (.getfield 10, 3) := by decide +kernel
theorem kR_multiply_d92 : decode prog_11_method_21_code 92 = .ok (.iload 4, 2) := by decide +kernel
theorem kR_multiply_d94 : decode prog_11_method_21_code 94 = .ok (.iload 5, 2) := by decide +kernel
theorem kR_multiply_d96 : decode prog_11_method_21_code 96 = .ok (.invokevirtual 174, 3) := by decide +kernel
theorem kR_multiply_d99 : decode prog_11_method_21_code 99 = .ok (.iconst 3, 1) := by decide +kernel
theorem kR_multiply_d100 : decode prog_11_method_21_code 100 = .ok (.invokevirtual 164, 3) := by decide +kernel
theorem kR_multiply_d103 : decode prog_11_method_21_code 103 = .ok (.pop, 1) := by decide +kernel
theorem kR_multiply_d104 : decode prog_11_method_21_code 104 = .ok (.return_, 1) := by decide +kernel
theorem kR_turn_d0 : decode prog_11_method_22_code 0 = .ok (.aload_n 0, 1) := by decide +kernel
theorem kR_turn_d1 : decode prog_11_method_22_code 1 = .ok (.iload_n 1, 1) := by decide +kernel
theorem kR_turn_d2 : decode prog_11_method_22_code 2 = .ok (.invokestatic 141, 3) := by decide +kernel
theorem kR_turn_d5 : decode prog_11_method_22_code 5 = .ok (.ifCond .eq 14, 3) := by decide +kernel
theorem kR_turn_d8 : decode prog_11_method_22_code 8 = .ok (.iload_n 2, 1) := by decide +kernel
theorem kR_turn_d9 : decode prog_11_method_22_code 9 = .ok (.invokestatic 141, 3) := by decide +kernel
theorem kR_turn_d12 : decode prog_11_method_22_code 12 = .ok (.ifCond .eq 7, 3) := by decide +kernel
theorem kR_turn_d15 : decode prog_11_method_22_code 15 = .ok (.iconst 0, 1) := by decide +kernel
theorem kR_turn_d16 : decode prog_11_method_22_code 16 = .ok (.goto 4, 3) := by decide +kernel
theorem kR_turn_d19 : decode prog_11_method_22_code 19 = .ok (.iconst 1, 1) := by decide +kernel
theorem kR_turn_d20 : decode prog_11_method_22_code 20 = .ok (.invokevirtual 123, 3) := by decide +kernel
theorem kR_turn_d23 : decode prog_11_method_22_code 23 = .ok (.ifCond .eq 4, 3) := by decide +kernel
theorem kR_turn_d26 : decode prog_11_method_22_code 26 = .ok (.return_, 1) := by decide +kernel
theorem kR_turn_d27 : decode prog_11_method_22_code 27 = .ok (.aload_n 0, 1) := by decide +kernel
theorem kR_turn_d28 : decode prog_11_method_22_code 28 = .ok (.invokevirtual 148, 3) := by decide +kernel
theorem kR_turn_d31 : decode prog_11_method_22_code 31 = .ok (.aload_n 0, 1) := by decide +kernel
theorem kR_turn_d32 : decode prog_11_method_22_code 32 = .ok (.iload_n 1, 1) := by decide +kernel
theorem kR_turn_d33 : decode prog_11_method_22_code 33 = .ok (.aload_n 0, 1) := by decide +kernel
theorem kR_turn_d34 : decode prog_11_method_22_code 34 = .ok (.getfield 10, 3) := by decide +kernel
theorem kR_turn_d37 : decode prog_11_method_22_code 37 = .ok (.aload_n 0, 1) := by decide +kernel
theorem kR_turn_d38 : decode prog_11_method_22_code 38 = .ok (.iload_n 2, 1) := by decide +kernel
theorem kR_turn_d39 : decode prog_11_method_22_code 39 = .ok (.invokevirtual 151, 3) := by decide +kernel
theorem kR_turn_d42 : decode prog_11_method_22_code 42 = .ok (.invokevirtual 177, 3) := by decide +kernel
theorem kR_turn_d45 : decode prog_11_method_22_code 45 = .ok (.iconst 2, 1) := by decide +kernel
theorem kR_turn_d46 : decode prog_11_method_22_code 46 = .ok (.invokevirtual 164, 3) := by decide +kernel
theorem kR_turn_d49 : decode prog_11_method_22_code 49 = .ok (.pop, 1) := by decide +kernel
theorem kR_turn_d50 : decode prog_11_method_22_code 50 = .ok (.return_, 1) := by decide +kernel
theorem kR_beside_d0 : decode prog_11_method_23_code 0 = .ok (.aload_n 0, 1) := by decide +kernel
theorem kR_beside_d1 : decode prog_11_method_23_code 1 = .ok (.iload_n 1, 1) := by decide +kernel
theorem kR_beside_d2 : decode prog_11_method_23_code 2 = .ok (.invokestatic 141, 3) := by decide +kernel
theorem kR_beside_d5 : decode prog_11_method_23_code 5 = .ok (.ifCond .eq 21, 3) := by decide +kernel
theorem kR_beside_d8 : decode prog_11_method_23_code 8 = .ok (.iload_n 2, 1) := by decide +kernel
theorem kR_beside_d9 : decode prog_11_method_23_code 9 = .ok (.invokestatic 141, 3) := by decide +kernel
theorem kR_beside_d12 : decode prog_11_method_23_code 12 = .ok (.ifCond .eq 14, 3) := by decide +kernel
theorem kR_beside_d15 : decode prog_11_method_23_code 15 = .ok (.iload_n 3, 1) := by decide +kernel
theorem kR_beside_d16 : decode prog_11_method_23_code 16 = .ok (.invokestatic 141, 3) := by decide +kernel
theorem kR_beside_d19 : decode prog_11_method_23_code 19 = .ok (.ifCond .eq 7, 3) := by decide +kernel
theorem kR_beside_d22 : decode prog_11_method_23_code 22 = .ok (.iconst 0, 1) := by decide +kernel
theorem kR_beside_d23 : decode prog_11_method_23_code 23 = .ok (.goto 4, 3) := by decide +kernel
theorem kR_beside_d26 : decode prog_11_method_23_code 26 = .ok (.iconst 1, 1) := by decide +kernel
theorem kR_beside_d27 : decode prog_11_method_23_code 27 = .ok (.invokevirtual 123, 3) := by decide +kernel
theorem kR_beside_d30 : decode prog_11_method_23_code 30 = .ok (.ifCond .eq 4, 3) := by decide +kernel
theorem kR_beside_d33 : decode prog_11_method_23_code 33 = .ok (.return_, 1) := by decide +kernel
theorem kR_beside_d34 : decode prog_11_method_23_code 34 = .ok (.aload_n 0, 1) := by decide +kernel
theorem kR_beside_d35 : decode prog_11_method_23_code 35 = .ok (.invokevirtual 148, 3) := by decide +kernel
theorem kR_beside_d38 : decode prog_11_method_23_code 38 = .ok (.aload_n 0, 1) := by decide +kernel
theorem kR_beside_d39 : decode prog_11_method_23_code 39 = .ok (.iload_n 2, 1) := by decide +kernel
theorem kR_beside_d40 : decode prog_11_method_23_code 40 = .ok (.invokevirtual 151, 3) := by decide +kernel
theorem kR_beside_d43 : decode prog_11_method_23_code 43 = .ok (.istore 4, 2) := by decide +kernel
theorem kR_beside_d45 : decode prog_11_method_23_code 45 = .ok (.aload_n 0, 1) := by decide +kernel
theorem kR_beside_d46 : decode prog_11_method_23_code 46 = .ok (.iload_n 3, 1) := by decide +kernel
theorem kR_beside_d47 : decode prog_11_method_23_code 47 = .ok (.invokevirtual 151, 3) := by decide +kernel
theorem kR_beside_d50 : decode prog_11_method_23_code 50 = .ok (.istore 5, 2) := by decide +kernel
theorem kR_beside_d52 : decode prog_11_method_23_code 52 = .ok (.aload_n 0, 1) := by decide +kernel
theorem kR_beside_d53 : decode prog_11_method_23_code 53 = .ok (.aload_n 0, 1) := by decide +kernel
theorem kR_beside_d54 : decode prog_11_method_23_code 54 = .ok (.getfield 10, 3) := by decide +kernel
theorem kR_beside_d57 : decode prog_11_method_23_code 57 = .ok (.iload 4, 2) := by decide +kernel
theorem kR_beside_d59 : decode prog_11_method_23_code 59 = .ok (.invokevirtual 63, 3) := by decide +kernel
theorem kR_beside_d62 : decode prog_11_method_23_code 62 = .ok (.aload_n 0, 1) := by decide +kernel
theorem kR_beside_d63 : decode prog_11_method_23_code 63 = .ok (.getfield 10, 3) := by decide +kernel
theorem kR_beside_d66 : decode prog_11_method_23_code 66 = .ok (.iload 5, 2) := by decide +kernel
theorem kR_beside_d68 : decode prog_11_method_23_code 68 = .ok (.invokevirtual 63, 3) := by decide +kernel
theorem kR_beside_d71 : decode prog_11_method_23_code 71 = .ok (.if_icmp .ne 7, 3) := by decide +kernel
theorem kR_beside_d74 : decode prog_11_method_23_code 74 = .ok (.iconst 0, 1) := by decide +kernel
theorem kR_beside_d75 : decode prog_11_method_23_code 75 = .ok (.goto 4, 3) := by decide +kernel
theorem kR_beside_d78 : decode prog_11_method_23_code 78 = .ok (.iconst 2, 1) := by decide +kernel
theorem kR_beside_d79 : decode prog_11_method_23_code 79 = .ok (.invokevirtual 123, 3) := by decide +kernel
theorem kR_beside_d82 : decode prog_11_method_23_code 82 = .ok (.ifCond .eq 4, 3) := by decide +kernel
theorem kR_beside_d85 : decode prog_11_method_23_code 85 = .ok (.return_, 1) := by decide +kernel
theorem kR_beside_d86 : decode prog_11_method_23_code 86 = .ok (.aload_n 0, 1) := by decide +kernel
theorem kR_beside_d87 : decode prog_11_method_23_code 87 = .ok (.iload_n 1, 1) := by decide +kernel
theorem kR_beside_d88 : decode prog_11_method_23_code 88 = .ok (.aload_n 0, 1) := by decide +kernel
theorem kR_beside_d89 : decode prog_11_method_23_code 89 = .ok (.getfield 10, 3) := by decide +kernel
theorem kR_beside_d92 : decode prog_11_method_23_code 92 = .ok (.iload 4, 2) := by decide +kernel
theorem kR_beside_d94 : decode prog_11_method_23_code 94 = .ok (.iload 5, 2) := by decide +kernel
theorem kR_beside_d96 : decode prog_11_method_23_code 96 = .ok (.invokevirtual 180, 3) := by decide +kernel
theorem kR_beside_d99 : decode prog_11_method_23_code 99 = .ok (.iconst 3, 1) := by decide +kernel
theorem kR_beside_d100 : decode prog_11_method_23_code 100 = .ok (.invokevirtual 164, 3) := by decide +kernel
theorem kR_beside_d103 : decode prog_11_method_23_code 103 = .ok (.pop, 1) := by decide +kernel
theorem kR_beside_d104 : decode prog_11_method_23_code 104 = .ok (.return_, 1) := by decide +kernel
theorem kR_part_d0 : decode prog_11_method_24_code 0 = .ok (.aload_n 0, 1) := by decide +kernel
theorem kR_part_d1 : decode prog_11_method_24_code 1 = .ok (.iload_n 1, 1) := by decide +kernel
theorem kR_part_d2 : decode prog_11_method_24_code 2 = .ok (.invokestatic 141, 3) := by decide +kernel
theorem kR_part_d5 : decode prog_11_method_24_code 5 = .ok (.ifCond .eq 47, 3) := by decide +kernel
theorem kR_part_d8 : decode prog_11_method_24_code 8 = .ok (.aload_n 0, 1) := by decide +kernel
theorem kR_part_d9 : decode prog_11_method_24_code 9 = .ok (.iload_n 2, 1) := by decide +kernel
theorem kR_part_d10 : decode prog_11_method_24_code 10 = .ok (.iload_n 3, 1) := by decide +kernel
theorem kR_part_d11 : decode prog_11_method_24_code 11 = .ok (.iload 5, 2) := by decide +kernel
theorem kR_part_d13 : decode prog_11_method_24_code 13 = .ok (.invokevirtual 144, 3) := by decide +kernel
theorem kR_part_d16 : decode prog_11_method_24_code 16 = .ok (.ifCond .eq 36, 3) := by decide +kernel
theorem kR_part_d19 : decode prog_11_method_24_code 19 = .ok (.aload_n 0, 1) := by decide +kernel
theorem kR_part_d20 : decode prog_11_method_24_code 20 = .ok (.iload_n 2, 1) := by decide +kernel
theorem kR_part_d21 : decode prog_11_method_24_code 21 = .ok (.iload 4, 2) := by decide +kernel
theorem kR_part_d23 : decode prog_11_method_24_code 23 = .ok (.iload 6, 2) := by decide +kernel
theorem kR_part_d25 : decode prog_11_method_24_code 25 = .ok (.invokevirtual 144, 3) := by decide +kernel
theorem kR_part_d28 : decode prog_11_method_24_code 28 = .ok (.ifCond .eq 24, 3) := by decide +kernel
theorem kR_part_d31 : decode prog_11_method_24_code 31 = .ok (.iload_n 3, 1) := by decide +kernel
theorem kR_part_d32 : decode prog_11_method_24_code 32 = .ok (.iload 4, 2) := by decide +kernel
theorem kR_part_d34 : decode prog_11_method_24_code 34 = .ok (.if_icmp .gt 10, 3) := by decide +kernel
theorem kR_part_d37 : decode prog_11_method_24_code 37 = .ok (.iload 5, 2) := by decide +kernel
theorem kR_part_d39 : decode prog_11_method_24_code 39 = .ok (.iload 6, 2) := by decide +kernel
theorem kR_part_d41 : decode prog_11_method_24_code 41 = .ok (.if_icmp .le 7, 3) := by decide +kernel
theorem kR_part_d44 : decode prog_11_method_24_code 44 = .ok (.iconst 2, 1) := by decide +kernel
theorem kR_part_d45 : decode prog_11_method_24_code 45 = .ok (.goto 8, 3) := by decide +kernel
theorem kR_part_d48 : decode prog_11_method_24_code 48 = .ok (.iconst 0, 1) := by decide +kernel
theorem kR_part_d49 : decode prog_11_method_24_code 49 = .ok (.goto 4, 3) := by decide +kernel
theorem kR_part_d52 : decode prog_11_method_24_code 52 = .ok (.iconst 1, 1) := by decide +kernel
theorem kR_part_d53 : decode prog_11_method_24_code 53 = .ok (.invokevirtual 123, 3) := by decide +kernel
theorem kR_part_d56 : decode prog_11_method_24_code 56 = .ok (.ifCond .eq 4, 3) := by decide +kernel
theorem kR_part_d59 : decode prog_11_method_24_code 59 = .ok (.return_, 1) := by decide +kernel
theorem kR_part_d60 : decode prog_11_method_24_code 60 = .ok (.aload_n 0, 1) := by decide +kernel
theorem kR_part_d61 : decode prog_11_method_24_code 61 = .ok (.invokevirtual 148, 3) := by decide +kernel
theorem kR_part_d64 : decode prog_11_method_24_code 64 = .ok (.aload_n 0, 1) := by decide +kernel
theorem kR_part_d65 : decode prog_11_method_24_code 65 = .ok (.iload_n 1, 1) := by decide +kernel
theorem kR_part_d66 : decode prog_11_method_24_code 66 = .ok (.aload_n 0, 1) := by decide +kernel
theorem kR_part_d67 : decode prog_11_method_24_code 67 = .ok (.getfield 10, 3) := by decide +kernel
theorem kR_part_d70 : decode prog_11_method_24_code 70 = .ok (.aload_n 0, 1) := by decide +kernel
theorem kR_part_d71 : decode prog_11_method_24_code 71 = .ok (.iload_n 2, 1) := by decide +kernel
theorem kR_part_d72 : decode prog_11_method_24_code 72 = .ok (.invokevirtual 151, 3) := by decide +kernel
theorem kR_part_d75 : decode prog_11_method_24_code 75 = .ok (.iload_n 3, 1) := by decide +kernel
theorem kR_part_d76 : decode prog_11_method_24_code 76 = .ok (.iload 5, 2) := by decide +kernel
theorem kR_part_d78 : decode prog_11_method_24_code 78 = .ok (.iload 4, 2) := by decide +kernel
theorem kR_part_d80 : decode prog_11_method_24_code 80 = .ok (.iload_n 3, 1) := by decide +kernel
theorem kR_part_d81 : decode prog_11_method_24_code 81 = .ok (.isub, 1) := by decide +kernel
theorem kR_part_d82 : decode prog_11_method_24_code 82 = .ok (.iconst 1, 1) := by decide +kernel
theorem kR_part_d83 : decode prog_11_method_24_code 83 = .ok (.iadd, 1) := by decide +kernel
theorem kR_part_d84 : decode prog_11_method_24_code 84 = .ok (.iload 6, 2) := by decide +kernel
theorem kR_part_d86 : decode prog_11_method_24_code 86 = .ok (.iload 5, 2) := by decide +kernel
theorem kR_part_d88 : decode prog_11_method_24_code 88 = .ok (.isub, 1) := by decide +kernel
theorem kR_part_d89 : decode prog_11_method_24_code 89 = .ok (.iconst 1, 1) := by decide +kernel
theorem kR_part_d90 : decode prog_11_method_24_code 90 = .ok (.iadd, 1) := by decide +kernel
theorem kR_part_d91 : decode prog_11_method_24_code 91 = .ok (.invokevirtual 183, 3) := by decide +kernel
theorem kR_part_d94 : decode prog_11_method_24_code 94 = .ok (.iconst 3, 1) := by decide +kernel
theorem kR_part_d95 : decode prog_11_method_24_code 95 = .ok (.invokevirtual 164, 3) := by decide +kernel
theorem kR_part_d98 : decode prog_11_method_24_code 98 = .ok (.pop, 1) := by decide +kernel
theorem kR_part_d99 : decode prog_11_method_24_code 99 = .ok (.return_, 1) := by decide +kernel
theorem kR_echelon_d0 : decode prog_11_method_25_code 0 = .ok (.aload_n 0, 1) := by decide +kernel
theorem kR_echelon_d1 : decode prog_11_method_25_code 1 = .ok (.iload_n 1, 1) := by decide +kernel
theorem kR_echelon_d2 : decode prog_11_method_25_code 2 = .ok (.invokestatic 141, 3) := by decide +kernel
theorem kR_echelon_d5 : decode prog_11_method_25_code 5 = .ok (.ifCond .eq 14, 3) := by decide +kernel
theorem kR_echelon_d8 : decode prog_11_method_25_code 8 = .ok (.iload_n 2, 1) := by decide +kernel
theorem kR_echelon_d9 : decode prog_11_method_25_code 9 = .ok (.invokestatic 141, 3) := by decide +kernel
theorem kR_echelon_d12 : decode prog_11_method_25_code 12 = .ok (.ifCond .eq 7, 3) := by decide +kernel
theorem kR_echelon_d15 : decode prog_11_method_25_code 15 = .ok (.iconst 0, 1) := by decide +kernel
theorem kR_echelon_d16 : decode prog_11_method_25_code 16 = .ok (.goto 4, 3) := by decide +kernel
theorem kR_echelon_d19 : decode prog_11_method_25_code 19 = .ok (.iconst 1, 1) := by decide +kernel
theorem kR_echelon_d20 : decode prog_11_method_25_code 20 = .ok (.invokevirtual 123, 3) := by decide +kernel
theorem kR_echelon_d23 : decode prog_11_method_25_code 23 = .ok (.ifCond .eq 5, 3) := by decide +kernel
theorem kR_echelon_d26 : decode prog_11_method_25_code 26 = .ok (.iconst 0, 1) := by decide +kernel
theorem kR_echelon_d27 : decode prog_11_method_25_code 27 = .ok (.ireturn, 1) := by decide +kernel
theorem kR_echelon_d28 : decode prog_11_method_25_code 28 = .ok (.aload_n 0, 1) := by decide +kernel
theorem kR_echelon_d29 : decode prog_11_method_25_code 29 = .ok (.invokevirtual 148, 3) := by decide +kernel
theorem kR_echelon_d32 : decode prog_11_method_25_code 32 = .ok (.aload_n 0, 1) := by decide +kernel
theorem kR_echelon_d33 : decode prog_11_method_25_code 33 = .ok (.iload_n 2, 1) := by decide +kernel
theorem kR_echelon_d34 : decode prog_11_method_25_code 34 = .ok (.invokevirtual 151, 3) := by decide +kernel
theorem kR_echelon_d37 : decode prog_11_method_25_code 37 = .ok (.istore_n 3, 1) := by decide +kernel
theorem kR_echelon_d38 : decode prog_11_method_25_code 38 = .ok (.aload_n 0, 1) := by decide +kernel
theorem kR_echelon_d39 : decode prog_11_method_25_code 39 = .ok (.aload_n 0, 1) := by decide +kernel
theorem kR_echelon_d40 : decode prog_11_method_25_code 40 = .ok (.iload_n 3, 1) := by decide +kernel
theorem kR_echelon_d41 : decode prog_11_method_25_code 41 = .ok (.iconst (-1), 1) := by decide +kernel
theorem kR_echelon_d42 : decode prog_11_method_25_code 42 = .ok (.invokevirtual 187, 3) := by decide +kernel
theorem kR_echelon_d45 : decode prog_11_method_25_code 45 = .ok (.ifCond .eq 7, 3) := by decide +kernel
theorem kR_echelon_d48 : decode prog_11_method_25_code 48 = .ok (.iconst 2, 1) := by decide +kernel
theorem kR_echelon_d49 : decode prog_11_method_25_code 49 = .ok (.goto 4, 3) := by decide +kernel
theorem kR_echelon_d52 : decode prog_11_method_25_code 52 = .ok (.iconst 0, 1) := by decide +kernel
theorem kR_echelon_d53 : decode prog_11_method_25_code 53 = .ok (.invokevirtual 123, 3) := by decide +kernel
theorem kR_echelon_d56 : decode prog_11_method_25_code 56 = .ok (.ifCond .eq 5, 3) := by decide +kernel
theorem kR_echelon_d59 : decode prog_11_method_25_code 59 = .ok (.iconst 0, 1) := by decide +kernel
theorem kR_echelon_d60 : decode prog_11_method_25_code 60 = .ok (.ireturn, 1) := by decide +kernel
theorem kR_echelon_d61 : decode prog_11_method_25_code 61 = .ok (.aload_n 0, 1) := by decide +kernel
theorem kR_echelon_d62 : decode prog_11_method_25_code 62 = .ok (.getfield 21, 3) := by decide +kernel
theorem kR_echelon_d65 : decode prog_11_method_25_code 65 = .ok (.iload_n 3, 1) := by decide +kernel
theorem kR_echelon_d66 : decode prog_11_method_25_code 66 = .ok (.invokevirtual 191, 3) := by decide +kernel
theorem kR_echelon_d69 : decode prog_11_method_25_code 69 = .ok (.istore 4, 2) := by decide +kernel
theorem kR_echelon_d71 : decode prog_11_method_25_code 71 = .ok (.aload_n 0, 1) := by decide +kernel
theorem kR_echelon_d72 : decode prog_11_method_25_code 72 = .ok (.getfield 10, 3) := by decide +kernel
theorem kR_echelon_d75 : decode prog_11_method_25_code 75 = .ok (.getfield 194, 3) := by decide +kernel
theorem kR_echelon_d78 : decode prog_11_method_25_code 78 = .ok (.istore 5, 2) := by decide +kernel
theorem kR_echelon_d80 : decode prog_11_method_25_code 80 = .ok (.aload_n 0, 1) := by decide +kernel
theorem kR_echelon_d81 : decode prog_11_method_25_code 81 = .ok (.iload_n 1, 1) := by decide +kernel
theorem kR_echelon_d82 : decode prog_11_method_25_code 82 = .ok (.iload 4, 2) := by decide +kernel
theorem kR_echelon_d84 : decode prog_11_method_25_code 84 = .ok (.iconst 2, 1) := by decide +kernel
theorem kR_echelon_d85 : decode prog_11_method_25_code 85 = .ok (.invokevirtual 164, 3) := by decide +kernel
theorem kR_echelon_d88 : decode prog_11_method_25_code 88 = .ok (.ifCond .eq 8, 3) := by decide +kernel
theorem kR_echelon_d91 : decode prog_11_method_25_code 91 = .ok (.iload 5, 2) := by decide +kernel
theorem kR_echelon_d93 : decode prog_11_method_25_code 93 = .ok (.goto 4, 3) := by decide +kernel
theorem kR_echelon_d96 : decode prog_11_method_25_code 96 = .ok (.iconst 0, 1) := by decide +kernel
theorem kR_echelon_d97 : decode prog_11_method_25_code 97 = .ok (.ireturn, 1) := by decide +kernel
theorem kR_isHeavy_d0 : decode prog_11_method_13_code 0 = .ok (.aload_n 0, 1) := by decide +kernel
theorem kR_isHeavy_d1 : decode prog_11_method_13_code 1 = .ok (.getfield 10, 3) := by decide +kernel
theorem kR_isHeavy_d4 : decode prog_11_method_13_code 4 = .ok (.getfield 37, 3) := by decide +kernel
theorem kR_isHeavy_d7 : decode prog_11_method_13_code 7 = .ok (.getfield 41, 3) := by decide +kernel
theorem kR_isHeavy_d10 : decode prog_11_method_13_code 10 = .ok (.istore_n 3, 1) := by decide +kernel
theorem kR_isHeavy_d11 : decode prog_11_method_13_code 11 = .ok (.iconst 0, 1) := by decide +kernel
theorem kR_isHeavy_d12 : decode prog_11_method_13_code 12 = .ok (.istore 4, 2) := by decide +kernel
theorem kR_isHeavy_d14 : decode prog_11_method_13_code 14 = .ok (.iconst 0, 1) := by decide +kernel
theorem kR_isHeavy_d15 : decode prog_11_method_13_code 15 = .ok (.istore 5, 2) := by decide +kernel
theorem kR_isHeavy_d17 : decode prog_11_method_13_code 17 = .ok (.iload 5, 2) := by decide +kernel
theorem kR_isHeavy_d19 : decode prog_11_method_13_code 19 = .ok (.aload_n 0, 1) := by decide +kernel
theorem kR_isHeavy_d20 : decode prog_11_method_13_code 20 = .ok (.getfield 10, 3) := by decide +kernel
theorem kR_isHeavy_d23 : decode prog_11_method_13_code 23 = .ok (.iload_n 1, 1) := by decide +kernel
theorem kR_isHeavy_d24 : decode prog_11_method_13_code 24 = .ok (.invokevirtual 63, 3) := by decide +kernel
theorem kR_isHeavy_d27 : decode prog_11_method_13_code 27 = .ok (.if_icmp .ge 83, 3) := by decide +kernel
theorem kR_isHeavy_d30 : decode prog_11_method_13_code 30 = .ok (.aload_n 0, 1) := by decide +kernel
theorem kR_isHeavy_d31 : decode prog_11_method_13_code 31 = .ok (.iconst 1, 1) := by decide +kernel
theorem kR_isHeavy_d32 : decode prog_11_method_13_code 32 = .ok (.iload_n 1, 1) := by decide +kernel
theorem kR_isHeavy_d33 : decode prog_11_method_13_code 33 = .ok (.iload 5, 2) := by decide +kernel
theorem kR_isHeavy_d35 : decode prog_11_method_13_code 35 = .ok (.invokevirtual 127, 3) := by decide +kernel
theorem kR_isHeavy_d38 : decode prog_11_method_13_code 38 = .ok (.istore 6, 2) := by decide +kernel
theorem kR_isHeavy_d40 : decode prog_11_method_13_code 40 = .ok (.iload_n 2, 1) := by decide +kernel
theorem kR_isHeavy_d41 : decode prog_11_method_13_code 41 = .ok (.iconst (-1), 1) := by decide +kernel
theorem kR_isHeavy_d42 : decode prog_11_method_13_code 42 = .ok (.if_icmp .eq 14, 3) := by decide +kernel
theorem kR_isHeavy_d45 : decode prog_11_method_13_code 45 = .ok (.aload_n 0, 1) := by decide +kernel
theorem kR_isHeavy_d46 : decode prog_11_method_13_code 46 = .ok (.iload 6, 2) := by decide +kernel
theorem kR_isHeavy_d48 : decode prog_11_method_13_code 48 = .ok (.iload_n 2, 1) := by decide +kernel
theorem kR_isHeavy_d49 : decode prog_11_method_13_code 49 = .ok (.iload 5, 2) := by decide +kernel
theorem kR_isHeavy_d51 : decode prog_11_method_13_code 51 = .ok (.invokevirtual 127, 3) := by decide +kernel
theorem kR_isHeavy_d54 : decode prog_11_method_13_code 54 = .ok (.istore 6, 2) := by decide +kernel
theorem kR_isHeavy_d56 : decode prog_11_method_13_code 56 = .ok (.iload 4, 2) := by decide +kernel
theorem kR_isHeavy_d58 : decode prog_11_method_13_code 58 = .ok (.aload_n 0, 1) := by decide +kernel
theorem kR_isHeavy_d59 : decode prog_11_method_13_code 59 = .ok (.iload 6, 2) := by decide +kernel
theorem kR_isHeavy_d61 : decode prog_11_method_13_code 61 = .ok (.iload_n 1, 1) := by decide +kernel
theorem kR_isHeavy_d62 : decode prog_11_method_13_code 62 = .ok (.iload 5, 2) := by decide +kernel
theorem kR_isHeavy_d64 : decode prog_11_method_13_code 64 = .ok (.invokevirtual 128, 3) := by decide +kernel
theorem kR_isHeavy_d67 : decode prog_11_method_13_code 67 = .ok (.iload_n 2, 1) := by decide +kernel
theorem kR_isHeavy_d68 : decode prog_11_method_13_code 68 = .ok (.iconst (-1), 1) := by decide +kernel
theorem kR_isHeavy_d69 : decode prog_11_method_13_code 69 = .ok (.if_icmp .eq 15, 3) := by decide +kernel
theorem kR_isHeavy_d72 : decode prog_11_method_13_code 72 = .ok (.aload_n 0, 1) := by decide +kernel
theorem kR_isHeavy_d73 : decode prog_11_method_13_code 73 = .ok (.iload 6, 2) := by decide +kernel
theorem kR_isHeavy_d75 : decode prog_11_method_13_code 75 = .ok (.iload_n 2, 1) := by decide +kernel
theorem kR_isHeavy_d76 : decode prog_11_method_13_code 76 = .ok (.iload 5, 2) := by decide +kernel
theorem kR_isHeavy_d78 : decode prog_11_method_13_code 78 = .ok (.invokevirtual 128, 3) := by decide +kernel
theorem kR_isHeavy_d81 : decode prog_11_method_13_code 81 = .ok (.goto 4, 3) := by decide +kernel
theorem kR_isHeavy_d84 : decode prog_11_method_13_code 84 = .ok (.iconst 0, 1) := by decide +kernel
theorem kR_isHeavy_d85 : decode prog_11_method_13_code 85 = .ok (.invokestatic 131, 3) := by decide +kernel
theorem kR_isHeavy_d88 : decode prog_11_method_13_code 88 = .ok (.invokestatic 131, 3) := by decide +kernel
theorem kR_isHeavy_d91 : decode prog_11_method_13_code 91 = .ok (.istore 4, 2) := by decide +kernel
theorem kR_isHeavy_d93 : decode prog_11_method_13_code 93 = .ok (.aload_n 0, 1) := by decide +kernel
theorem kR_isHeavy_d94 : decode prog_11_method_13_code 94 = .ok (.getfield 10, 3) := by decide +kernel
theorem kR_isHeavy_d97 : decode prog_11_method_13_code 97 = .ok (.getfield 37, 3) := by decide +kernel
theorem kR_isHeavy_d100 : decode prog_11_method_13_code 100 = .ok (.iload_n 3, 1) := by decide +kernel
theorem kR_isHeavy_d101 : decode prog_11_method_13_code 101 = .ok (.putfield 41, 3) := by decide +kernel
theorem kR_isHeavy_d104 : decode prog_11_method_13_code 104 = .ok (.iinc 5 1, 3) := by decide +kernel
theorem kR_isHeavy_d107 : decode prog_11_method_13_code 107 = .ok (.goto (-90), 3) := by decide +kernel
theorem kR_isHeavy_d110 : decode prog_11_method_13_code 110 = .ok (.aload_n 0, 1) := by decide +kernel
theorem kR_isHeavy_d111 : decode prog_11_method_13_code 111 = .ok (.getfield 10, 3) := by decide +kernel
theorem kR_isHeavy_d114 : decode prog_11_method_13_code 114 = .ok (.iload_n 1, 1) := by decide +kernel
theorem kR_isHeavy_d115 : decode prog_11_method_13_code 115 = .ok (.invokevirtual 63, 3) := by decide +kernel
theorem kR_isHeavy_d118 : decode prog_11_method_13_code 118 = .ok (.aload_n 0, 1) := by decide +kernel
theorem kR_isHeavy_d119 : decode prog_11_method_13_code 119 = .ok (.getfield 10, 3) := by decide +kernel
theorem kR_isHeavy_d122 : decode prog_11_method_13_code 122 = .ok (.iload_n 1, 1) := by decide +kernel
theorem kR_isHeavy_d123 : decode prog_11_method_13_code 123 = .ok (.invokevirtual 67, 3) := by decide +kernel
theorem kR_isHeavy_d126 : decode prog_11_method_13_code 126 = .ok (.iload_n 2, 1) := by decide +kernel
theorem kR_isHeavy_d127 : decode prog_11_method_13_code 127 = .ok (.iconst (-1), 1) := by decide +kernel
theorem kR_isHeavy_d128 : decode prog_11_method_13_code 128 = .ok (.if_icmp .eq 14, 3) := by decide +kernel
theorem kR_isHeavy_d131 : decode prog_11_method_13_code 131 = .ok (.aload_n 0, 1) := by decide +kernel
theorem kR_isHeavy_d132 : decode prog_11_method_13_code 132 = .ok (.getfield 10, 3) := by decide +kernel
theorem kR_isHeavy_d135 : decode prog_11_method_13_code 135 = .ok (.iload_n 2, 1) := by decide +kernel
theorem kR_isHeavy_d136 : decode prog_11_method_13_code 136 = .ok (.invokevirtual 67, 3) := by decide +kernel
theorem kR_isHeavy_d139 : decode prog_11_method_13_code 139 = .ok (.goto 4, 3) := by decide +kernel
theorem kR_isHeavy_d142 : decode prog_11_method_13_code 142 = .ok (.iconst 0, 1) := by decide +kernel
theorem kR_isHeavy_d143 : decode prog_11_method_13_code 143 = .ok (.iadd, 1) := by decide +kernel
theorem kR_isHeavy_d144 : decode prog_11_method_13_code 144 = .ok (.invokestatic 136, 3) := by decide +kernel
theorem kR_isHeavy_d147 : decode prog_11_method_13_code 147 = .ok (.istore 5, 2) := by decide +kernel
theorem kR_isHeavy_d149 : decode prog_11_method_13_code 149 = .ok (.iconst 0, 1) := by decide +kernel
theorem kR_isHeavy_d150 : decode prog_11_method_13_code 150 = .ok (.istore 6, 2) := by decide +kernel
theorem kR_isHeavy_d152 : decode prog_11_method_13_code 152 = .ok (.iconst 1, 1) := by decide +kernel
theorem kR_isHeavy_d153 : decode prog_11_method_13_code 153 = .ok (.iload 6, 2) := by decide +kernel
theorem kR_isHeavy_d155 : decode prog_11_method_13_code 155 = .ok (.ishl, 1) := by decide +kernel
theorem kR_isHeavy_d156 : decode prog_11_method_13_code 156 = .ok (.iload 5, 2) := by decide +kernel
theorem kR_isHeavy_d158 : decode prog_11_method_13_code 158 = .ok (.if_icmp .ge 9, 3) := by decide +kernel
theorem kR_isHeavy_d161 : decode prog_11_method_13_code 161 = .ok (.iinc 6 1, 3) := by decide +kernel
theorem kR_isHeavy_d164 : decode prog_11_method_13_code 164 = .ok (.goto (-12), 3) := by decide +kernel
theorem kR_isHeavy_d167 : decode prog_11_method_13_code 167 = .ok (.iload 5, 2) := by decide +kernel
theorem kR_isHeavy_d169 : decode prog_11_method_13_code 169 = .ok (.i2l, 1) := by decide +kernel
theorem kR_isHeavy_d170 : decode prog_11_method_13_code 170 = .ok (.iload 4, 2) := by decide +kernel
theorem kR_isHeavy_d172 : decode prog_11_method_13_code 172 = .ok (.iload 6, 2) := by decide +kernel
theorem kR_isHeavy_d174 : decode prog_11_method_13_code 174 = .ok (.iadd, 1) := by decide +kernel
theorem kR_isHeavy_d175 : decode prog_11_method_13_code 175 = .ok (.i2l, 1) := by decide +kernel
theorem kR_isHeavy_d176 : decode prog_11_method_13_code 176 = .ok (.lmul, 1) := by decide +kernel
theorem kR_isHeavy_d177 : decode prog_11_method_13_code 177 = .ok (.ldc2_w 139, 3) := by decide +kernel
theorem kR_isHeavy_d180 : decode prog_11_method_13_code 180 = .ok (.lcmp, 1) := by decide +kernel
theorem kR_isHeavy_d181 : decode prog_11_method_13_code 181 = .ok (.ifCond .le 7, 3) := by decide +kernel
theorem kR_isHeavy_d184 : decode prog_11_method_13_code 184 = .ok (.iconst 1, 1) := by decide +kernel
theorem kR_isHeavy_d185 : decode prog_11_method_13_code 185 = .ok (.goto 4, 3) := by decide +kernel
theorem kR_isHeavy_d188 : decode prog_11_method_13_code 188 = .ok (.iconst 0, 1) := by decide +kernel
theorem kR_isHeavy_d189 : decode prog_11_method_13_code 189 = .ok (.ireturn, 1) := by decide +kernel
theorem kR_multiple_d0 : decode prog_11_method_14_code 0 = .ok (.iload_n 1, 1) := by decide +kernel
theorem kR_multiple_d1 : decode prog_11_method_14_code 1 = .ok (.istore 4, 2) := by decide +kernel
theorem kR_multiple_d3 : decode prog_11_method_14_code 3 = .ok (.iload 4, 2) := by decide +kernel
theorem kR_multiple_d5 : decode prog_11_method_14_code 5 = .ok (.iconst 1, 1) := by decide +kernel
theorem kR_multiple_d6 : decode prog_11_method_14_code 6 = .ok (.if_icmp .ne 16, 3) := by decide +kernel
theorem kR_multiple_d9 : decode prog_11_method_14_code 9 = .ok (.aload_n 0, 1) := by decide +kernel
theorem kR_multiple_d10 : decode prog_11_method_14_code 10 = .ok (.getfield 10, 3) := by decide +kernel
theorem kR_multiple_d13 : decode prog_11_method_14_code 13 = .ok (.getfield 37, 3) := by decide +kernel
theorem kR_multiple_d16 : decode prog_11_method_14_code 16 = .ok (.getfield 41, 3) := by decide +kernel
theorem kR_multiple_d19 : decode prog_11_method_14_code 19 = .ok (.goto 5, 3) := by decide +kernel
theorem kR_multiple_d22 : decode prog_11_method_14_code 22 = .ok (.iload 4, 2) := by decide +kernel
theorem kR_multiple_d24 : decode prog_11_method_14_code 24 = .ok (.istore 5, 2) := by decide +kernel
theorem kR_multiple_d26 : decode prog_11_method_14_code 26 = .ok (.iconst 0, 1) := by decide +kernel
theorem kR_multiple_d27 : decode prog_11_method_14_code 27 = .ok (.istore 6, 2) := by decide +kernel
theorem kR_multiple_d29 : decode prog_11_method_14_code 29 = .ok (.iload 6, 2) := by decide +kernel
theorem kR_multiple_d31 : decode prog_11_method_14_code 31 = .ok (.aload_n 0, 1) := by decide +kernel
theorem kR_multiple_d32 : decode prog_11_method_14_code 32 = .ok (.getfield 10, 3) := by decide +kernel
theorem kR_multiple_d35 : decode prog_11_method_14_code 35 = .ok (.iload_n 2, 1) := by decide +kernel
theorem kR_multiple_d36 : decode prog_11_method_14_code 36 = .ok (.invokevirtual 67, 3) := by decide +kernel
theorem kR_multiple_d39 : decode prog_11_method_14_code 39 = .ok (.if_icmp .ge 56, 3) := by decide +kernel
theorem kR_multiple_d42 : decode prog_11_method_14_code 42 = .ok (.aload_n 0, 1) := by decide +kernel
theorem kR_multiple_d43 : decode prog_11_method_14_code 43 = .ok (.getfield 10, 3) := by decide +kernel
theorem kR_multiple_d46 : decode prog_11_method_14_code 46 = .ok (.iload_n 2, 1) := by decide +kernel
theorem kR_multiple_d47 : decode prog_11_method_14_code 47 = .ok (.iload_n 3, 1) := by decide +kernel
theorem kR_multiple_d48 : decode prog_11_method_14_code 48 = .ok (.aload_n 0, 1) := by decide +kernel
theorem kR_multiple_d49 : decode prog_11_method_14_code 49 = .ok (.getfield 10, 3) := by decide +kernel
theorem kR_multiple_d52 : decode prog_11_method_14_code 52 = .ok (.iload_n 2, 1) := by decide +kernel
theorem kR_multiple_d53 : decode prog_11_method_14_code 53 = .ok (.invokevirtual 67, 3) := by decide +kernel
theorem kR_multiple_d56 : decode prog_11_method_14_code 56 = .ok (.imul, 1) := by decide +kernel
theorem kR_multiple_d57 : decode prog_11_method_14_code 57 = .ok (.iload 6, 2) := by decide +kernel
theorem kR_multiple_d59 : decode prog_11_method_14_code 59 = .ok (.iadd, 1) := by decide +kernel
theorem kR_multiple_d60 : decode prog_11_method_14_code 60 = .ok (.invokevirtual 83, 3) := by decide +kernel
theorem kR_multiple_d63 : decode prog_11_method_14_code 63 = .ok (.istore 7, 2) := by decide +kernel
theorem kR_multiple_d65 : decode prog_11_method_14_code 65 = .ok (.iload 7, 2) := by decide +kernel
theorem kR_multiple_d67 : decode prog_11_method_14_code 67 = .ok (.iconst 1, 1) := by decide +kernel
theorem kR_multiple_d68 : decode prog_11_method_14_code 68 = .ok (.if_icmp .eq 21, 3) := by decide +kernel
theorem kR_multiple_d71 : decode prog_11_method_14_code 71 = .ok (.aload_n 0, 1) := by decide +kernel
theorem kR_multiple_d72 : decode prog_11_method_14_code 72 = .ok (.getfield 10, 3) := by decide +kernel
theorem kR_multiple_d75 : decode prog_11_method_14_code 75 = .ok (.getfield 37, 3) := by decide +kernel
theorem kR_multiple_d78 : decode prog_11_method_14_code 78 = .ok (.iload 4, 2) := by decide +kernel
theorem kR_multiple_d80 : decode prog_11_method_14_code 80 = .ok (.iload 7, 2) := by decide +kernel
theorem kR_multiple_d82 : decode prog_11_method_14_code 82 = .ok (.iload 5, 2) := by decide +kernel
theorem kR_multiple_d84 : decode prog_11_method_14_code 84 = .ok (.invokevirtual 104, 3) := by decide +kernel
theorem kR_multiple_d87 : decode prog_11_method_14_code 87 = .ok (.istore 4, 2) := by decide +kernel
theorem kR_multiple_d89 : decode prog_11_method_14_code 89 = .ok (.iinc 6 1, 3) := by decide +kernel
theorem kR_multiple_d92 : decode prog_11_method_14_code 92 = .ok (.goto (-63), 3) := by decide +kernel
theorem kR_multiple_d95 : decode prog_11_method_14_code 95 = .ok (.iload 4, 2) := by decide +kernel
theorem kR_multiple_d97 : decode prog_11_method_14_code 97 = .ok (.ireturn, 1) := by decide +kernel
theorem kR_longest_d0 : decode prog_11_method_15_code 0 = .ok (.iconst 0, 1) := by decide +kernel
theorem kR_longest_d1 : decode prog_11_method_15_code 1 = .ok (.istore 4, 2) := by decide +kernel
theorem kR_longest_d3 : decode prog_11_method_15_code 3 = .ok (.iconst 0, 1) := by decide +kernel
theorem kR_longest_d4 : decode prog_11_method_15_code 4 = .ok (.istore 5, 2) := by decide +kernel
theorem kR_longest_d6 : decode prog_11_method_15_code 6 = .ok (.iload 5, 2) := by decide +kernel
theorem kR_longest_d8 : decode prog_11_method_15_code 8 = .ok (.aload_n 0, 1) := by decide +kernel
theorem kR_longest_d9 : decode prog_11_method_15_code 9 = .ok (.getfield 10, 3) := by decide +kernel
theorem kR_longest_d12 : decode prog_11_method_15_code 12 = .ok (.iload_n 2, 1) := by decide +kernel
theorem kR_longest_d13 : decode prog_11_method_15_code 13 = .ok (.invokevirtual 67, 3) := by decide +kernel
theorem kR_longest_d16 : decode prog_11_method_15_code 16 = .ok (.if_icmp .ge 110, 3) := by decide +kernel
theorem kR_longest_d19 : decode prog_11_method_15_code 19 = .ok (.iload_n 3, 1) := by decide +kernel
theorem kR_longest_d20 : decode prog_11_method_15_code 20 = .ok (.aload_n 0, 1) := by decide +kernel
theorem kR_longest_d21 : decode prog_11_method_15_code 21 = .ok (.getfield 10, 3) := by decide +kernel
theorem kR_longest_d24 : decode prog_11_method_15_code 24 = .ok (.iload_n 2, 1) := by decide +kernel
theorem kR_longest_d25 : decode prog_11_method_15_code 25 = .ok (.invokevirtual 67, 3) := by decide +kernel
theorem kR_longest_d28 : decode prog_11_method_15_code 28 = .ok (.imul, 1) := by decide +kernel
theorem kR_longest_d29 : decode prog_11_method_15_code 29 = .ok (.iload 5, 2) := by decide +kernel
theorem kR_longest_d31 : decode prog_11_method_15_code 31 = .ok (.iadd, 1) := by decide +kernel
theorem kR_longest_d32 : decode prog_11_method_15_code 32 = .ok (.istore 6, 2) := by decide +kernel
theorem kR_longest_d34 : decode prog_11_method_15_code 34 = .ok (.aload_n 0, 1) := by decide +kernel
theorem kR_longest_d35 : decode prog_11_method_15_code 35 = .ok (.getfield 10, 3) := by decide +kernel
theorem kR_longest_d38 : decode prog_11_method_15_code 38 = .ok (.getfield 37, 3) := by decide +kernel
theorem kR_longest_d41 : decode prog_11_method_15_code 41 = .ok (.getfield 41, 3) := by decide +kernel
theorem kR_longest_d44 : decode prog_11_method_15_code 44 = .ok (.istore 7, 2) := by decide +kernel
theorem kR_longest_d46 : decode prog_11_method_15_code 46 = .ok (.aload_n 0, 1) := by decide +kernel
theorem kR_longest_d47 : decode prog_11_method_15_code 47 = .ok (.getfield 10, 3) := by decide +kernel
theorem kR_longest_d50 : decode prog_11_method_15_code 50 = .ok (.getfield 37, 3) := by decide +kernel
theorem kR_longest_d53 : decode prog_11_method_15_code 53 = .ok (.aload_n 0, 1) := by decide +kernel
theorem kR_longest_d54 : decode prog_11_method_15_code 54 = .ok (.getfield 10, 3) := by decide +kernel
theorem kR_longest_d57 : decode prog_11_method_15_code 57 = .ok (.getfield 37, 3) := by decide +kernel
theorem kR_longest_d60 : decode prog_11_method_15_code 60 = .ok (.iload_n 1, 1) := by decide +kernel
theorem kR_longest_d61 : decode prog_11_method_15_code 61 = .ok (.aload_n 0, 1) := by decide +kernel
theorem kR_longest_d62 : decode prog_11_method_15_code 62 = .ok (.getfield 10, 3) := by decide +kernel
theorem kR_longest_d65 : decode prog_11_method_15_code 65 = .ok (.iload_n 2, 1) := by decide +kernel
theorem kR_longest_d66 : decode prog_11_method_15_code 66 = .ok (.iload 6, 2) := by decide +kernel
theorem kR_longest_d68 : decode prog_11_method_15_code 68 = .ok (.invokevirtual 83, 3) := by decide +kernel
theorem kR_longest_d71 : decode prog_11_method_15_code 71 = .ok (.invokevirtual 114, 3) := by decide +kernel
theorem kR_longest_d74 : decode prog_11_method_15_code 74 = .ok (.aload_n 0, 1) := by decide +kernel
theorem kR_longest_d75 : decode prog_11_method_15_code 75 = .ok (.getfield 10, 3) := by decide +kernel
theorem kR_longest_d78 : decode prog_11_method_15_code 78 = .ok (.iload_n 2, 1) := by decide +kernel
theorem kR_longest_d79 : decode prog_11_method_15_code 79 = .ok (.iload 6, 2) := by decide +kernel
theorem kR_longest_d81 : decode prog_11_method_15_code 81 = .ok (.invokevirtual 73, 3) := by decide +kernel
theorem kR_longest_d84 : decode prog_11_method_15_code 84 = .ok (.invokevirtual 117, 3) := by decide +kernel
theorem kR_longest_d87 : decode prog_11_method_15_code 87 = .ok (.istore 8, 2) := by decide +kernel
theorem kR_longest_d89 : decode prog_11_method_15_code 89 = .ok (.iload 4, 2) := by decide +kernel
theorem kR_longest_d91 : decode prog_11_method_15_code 91 = .ok (.aload_n 0, 1) := by decide +kernel
theorem kR_longest_d92 : decode prog_11_method_15_code 92 = .ok (.getfield 10, 3) := by decide +kernel
theorem kR_longest_d95 : decode prog_11_method_15_code 95 = .ok (.getfield 37, 3) := by decide +kernel
theorem kR_longest_d98 : decode prog_11_method_15_code 98 = .ok (.iload 8, 2) := by decide +kernel
theorem kR_longest_d100 : decode prog_11_method_15_code 100 = .ok (.invokevirtual 108, 3) := by decide +kernel
theorem kR_longest_d103 : decode prog_11_method_15_code 103 = .ok (.invokestatic 131, 3) := by decide +kernel
theorem kR_longest_d106 : decode prog_11_method_15_code 106 = .ok (.istore 4, 2) := by decide +kernel
theorem kR_longest_d108 : decode prog_11_method_15_code 108 = .ok (.aload_n 0, 1) := by decide +kernel
theorem kR_longest_d109 : decode prog_11_method_15_code 109 = .ok (.getfield 10, 3) := by decide +kernel
theorem kR_longest_d112 : decode prog_11_method_15_code 112 = .ok (.getfield 37, 3) := by decide +kernel
theorem kR_longest_d115 : decode prog_11_method_15_code 115 = .ok (.iload 7, 2) := by decide +kernel
theorem kR_longest_d117 : decode prog_11_method_15_code 117 = .ok (.putfield 41, 3) := by decide +kernel
theorem kR_longest_d120 : decode prog_11_method_15_code 120 = .ok (.iinc 5 1, 3) := by decide +kernel
theorem kR_longest_d123 : decode prog_11_method_15_code 123 = .ok (.goto (-117), 3) := by decide +kernel
theorem kR_longest_d126 : decode prog_11_method_15_code 126 = .ok (.iload 4, 2) := by decide +kernel
theorem kR_longest_d128 : decode prog_11_method_15_code 128 = .ok (.ireturn, 1) := by decide +kernel
theorem kR_kernel_d0 : decode prog_11_method_26_code 0 = .ok (.aload_n 0, 1) := by decide +kernel
theorem kR_kernel_d1 : decode prog_11_method_26_code 1 = .ok (.iload_n 1, 1) := by decide +kernel
theorem kR_kernel_d2 : decode prog_11_method_26_code 2 = .ok (.invokestatic 141, 3) := by decide +kernel
theorem kR_kernel_d5 : decode prog_11_method_26_code 5 = .ok (.ifCond .eq 14, 3) := by decide +kernel
theorem kR_kernel_d8 : decode prog_11_method_26_code 8 = .ok (.iload_n 2, 1) := by decide +kernel
theorem kR_kernel_d9 : decode prog_11_method_26_code 9 = .ok (.invokestatic 141, 3) := by decide +kernel
theorem kR_kernel_d12 : decode prog_11_method_26_code 12 = .ok (.ifCond .eq 7, 3) := by decide +kernel
theorem kR_kernel_d15 : decode prog_11_method_26_code 15 = .ok (.iconst 0, 1) := by decide +kernel
theorem kR_kernel_d16 : decode prog_11_method_26_code 16 = .ok (.goto 4, 3) := by decide +kernel
theorem kR_kernel_d19 : decode prog_11_method_26_code 19 = .ok (.iconst 1, 1) := by decide +kernel
theorem kR_kernel_d20 : decode prog_11_method_26_code 20 = .ok (.invokevirtual 123, 3) := by decide +kernel
theorem kR_kernel_d23 : decode prog_11_method_26_code 23 = .ok (.ifCond .eq 5, 3) := by decide +kernel
theorem kR_kernel_d26 : decode prog_11_method_26_code 26 = .ok (.iconst 0, 1) := by decide +kernel
theorem kR_kernel_d27 : decode prog_11_method_26_code 27 = .ok (.ireturn, 1) := by decide +kernel
theorem kR_kernel_d28 : decode prog_11_method_26_code 28 = .ok (.aload_n 0, 1) := by decide +kernel
theorem kR_kernel_d29 : decode prog_11_method_26_code 29 = .ok (.invokevirtual 148, 3) := by decide +kernel
theorem kR_kernel_d32 : decode prog_11_method_26_code 32 = .ok (.aload_n 0, 1) := by decide +kernel
theorem kR_kernel_d33 : decode prog_11_method_26_code 33 = .ok (.iload_n 2, 1) := by decide +kernel
theorem kR_kernel_d34 : decode prog_11_method_26_code 34 = .ok (.invokevirtual 151, 3) := by decide +kernel
theorem kR_kernel_d37 : decode prog_11_method_26_code 37 = .ok (.istore_n 3, 1) := by decide +kernel
theorem kR_kernel_d38 : decode prog_11_method_26_code 38 = .ok (.aload_n 0, 1) := by decide +kernel
theorem kR_kernel_d39 : decode prog_11_method_26_code 39 = .ok (.aload_n 0, 1) := by decide +kernel
theorem kR_kernel_d40 : decode prog_11_method_26_code 40 = .ok (.iload_n 3, 1) := by decide +kernel
theorem kR_kernel_d41 : decode prog_11_method_26_code 41 = .ok (.iconst (-1), 1) := by decide +kernel
theorem kR_kernel_d42 : decode prog_11_method_26_code 42 = .ok (.invokevirtual 187, 3) := by decide +kernel
theorem kR_kernel_d45 : decode prog_11_method_26_code 45 = .ok (.ifCond .eq 7, 3) := by decide +kernel
theorem kR_kernel_d48 : decode prog_11_method_26_code 48 = .ok (.iconst 2, 1) := by decide +kernel
theorem kR_kernel_d49 : decode prog_11_method_26_code 49 = .ok (.goto 4, 3) := by decide +kernel
theorem kR_kernel_d52 : decode prog_11_method_26_code 52 = .ok (.iconst 0, 1) := by decide +kernel
theorem kR_kernel_d53 : decode prog_11_method_26_code 53 = .ok (.invokevirtual 123, 3) := by decide +kernel
theorem kR_kernel_d56 : decode prog_11_method_26_code 56 = .ok (.ifCond .eq 5, 3) := by decide +kernel
theorem kR_kernel_d59 : decode prog_11_method_26_code 59 = .ok (.iconst 0, 1) := by decide +kernel
theorem kR_kernel_d60 : decode prog_11_method_26_code 60 = .ok (.ireturn, 1) := by decide +kernel
theorem kR_kernel_d61 : decode prog_11_method_26_code 61 = .ok (.aload_n 0, 1) := by decide +kernel
theorem kR_kernel_d62 : decode prog_11_method_26_code 62 = .ok (.getfield 21, 3) := by decide +kernel
theorem kR_kernel_d65 : decode prog_11_method_26_code 65 = .ok (.iload_n 3, 1) := by decide +kernel
theorem kR_kernel_d66 : decode prog_11_method_26_code 66 = .ok (.invokevirtual 197, 3) := by decide +kernel
theorem kR_kernel_d69 : decode prog_11_method_26_code 69 = .ok (.istore 4, 2) := by decide +kernel
theorem kR_kernel_d71 : decode prog_11_method_26_code 71 = .ok (.iload 4, 2) := by decide +kernel
theorem kR_kernel_d73 : decode prog_11_method_26_code 73 = .ok (.iconst (-1), 1) := by decide +kernel
theorem kR_kernel_d74 : decode prog_11_method_26_code 74 = .ok (.if_icmp .eq 26, 3) := by decide +kernel
theorem kR_kernel_d77 : decode prog_11_method_26_code 77 = .ok (.aload_n 0, 1) := by decide +kernel
theorem kR_kernel_d78 : decode prog_11_method_26_code 78 = .ok (.iload_n 1, 1) := by decide +kernel
theorem kR_kernel_d79 : decode prog_11_method_26_code 79 = .ok (.iload 4, 2) := by decide +kernel
theorem kR_kernel_d81 : decode prog_11_method_26_code 81 = .ok (.iconst 2, 1) := by decide +kernel
theorem kR_kernel_d82 : decode prog_11_method_26_code 82 = .ok (.invokevirtual 164, 3) := by decide +kernel
theorem kR_kernel_d85 : decode prog_11_method_26_code 85 = .ok (.ifCond .eq 15, 3) := by decide +kernel
theorem kR_kernel_d88 : decode prog_11_method_26_code 88 = .ok (.aload_n 0, 1) := by decide +kernel
theorem kR_kernel_d89 : decode prog_11_method_26_code 89 = .ok (.getfield 10, 3) := by decide +kernel
theorem kR_kernel_d92 : decode prog_11_method_26_code 92 = .ok (.iload 4, 2) := by decide +kernel
theorem kR_kernel_d94 : decode prog_11_method_26_code 94 = .ok (.invokevirtual 63, 3) := by decide +kernel
theorem kR_kernel_d97 : decode prog_11_method_26_code 97 = .ok (.goto 4, 3) := by decide +kernel
theorem kR_kernel_d100 : decode prog_11_method_26_code 100 = .ok (.iconst 0, 1) := by decide +kernel
theorem kR_kernel_d101 : decode prog_11_method_26_code 101 = .ok (.ireturn, 1) := by decide +kernel
theorem kR_solve_d0 : decode prog_11_method_27_code 0 = .ok (.aload_n 0, 1) := by decide +kernel
theorem kR_solve_d1 : decode prog_11_method_27_code 1 = .ok (.iload_n 1, 1) := by decide +kernel
theorem kR_solve_d2 : decode prog_11_method_27_code 2 = .ok (.invokestatic 141, 3) := by decide +kernel
theorem kR_solve_d5 : decode prog_11_method_27_code 5 = .ok (.ifCond .eq 21, 3) := by decide +kernel
theorem kR_solve_d8 : decode prog_11_method_27_code 8 = .ok (.iload_n 2, 1) := by decide +kernel
theorem kR_solve_d9 : decode prog_11_method_27_code 9 = .ok (.invokestatic 141, 3) := by decide +kernel
theorem kR_solve_d12 : decode prog_11_method_27_code 12 = .ok (.ifCond .eq 14, 3) := by decide +kernel
theorem kR_solve_d15 : decode prog_11_method_27_code 15 = .ok (.iload_n 3, 1) := by decide +kernel
theorem kR_solve_d16 : decode prog_11_method_27_code 16 = .ok (.invokestatic 141, 3) := by decide +kernel
theorem kR_solve_d19 : decode prog_11_method_27_code 19 = .ok (.ifCond .eq 7, 3) := by decide +kernel
theorem kR_solve_d22 : decode prog_11_method_27_code 22 = .ok (.iconst 0, 1) := by decide +kernel
theorem kR_solve_d23 : decode prog_11_method_27_code 23 = .ok (.goto 4, 3) := by decide +kernel
theorem kR_solve_d26 : decode prog_11_method_27_code 26 = .ok (.iconst 1, 1) := by decide +kernel
theorem kR_solve_d27 : decode prog_11_method_27_code 27 = .ok (.invokevirtual 123, 3) := by decide +kernel
theorem kR_solve_d30 : decode prog_11_method_27_code 30 = .ok (.ifCond .eq 5, 3) := by decide +kernel
theorem kR_solve_d33 : decode prog_11_method_27_code 33 = .ok (.iconst 0, 1) := by decide +kernel
theorem kR_solve_d34 : decode prog_11_method_27_code 34 = .ok (.ireturn, 1) := by decide +kernel
theorem kR_solve_d35 : decode prog_11_method_27_code 35 = .ok (.aload_n 0, 1) := by decide +kernel
theorem kR_solve_d36 : decode prog_11_method_27_code 36 = .ok (.invokevirtual 148, 3) := by decide +kernel
theorem kR_solve_d39 : decode prog_11_method_27_code 39 = .ok (.aload_n 0, 1) := by decide +kernel
theorem kR_solve_d40 : decode prog_11_method_27_code 40 = .ok (.iload_n 2, 1) := by decide +kernel
theorem kR_solve_d41 : decode prog_11_method_27_code 41 = .ok (.invokevirtual 151, 3) := by decide +kernel
theorem kR_solve_d44 : decode prog_11_method_27_code 44 = .ok (.istore 4, 2) := by decide +kernel
theorem kR_solve_d46 : decode prog_11_method_27_code 46 = .ok (.aload_n 0, 1) := by decide +kernel
theorem kR_solve_d47 : decode prog_11_method_27_code 47 = .ok (.iload_n 3, 1) := by decide +kernel
theorem kR_solve_d48 : decode prog_11_method_27_code 48 = .ok (.invokevirtual 151, 3) := by decide +kernel
theorem kR_solve_d51 : decode prog_11_method_27_code 51 = .ok (.istore 5, 2) := by decide +kernel
theorem kR_solve_d53 : decode prog_11_method_27_code 53 = .ok (.aload_n 0, 1) := by decide +kernel
theorem kR_solve_d54 : decode prog_11_method_27_code 54 = .ok (.aload_n 0, 1) := by decide +kernel
theorem kR_solve_d55 : decode prog_11_method_27_code 55 = .ok (.getfield 10, 3) := by decide +kernel
theorem kR_solve_d58 : decode prog_11_method_27_code 58 = .ok (.iload 4, 2) := by decide +kernel
theorem kR_solve_d60 : decode prog_11_method_27_code 60 = .ok (.invokevirtual 63, 3) := by decide +kernel
theorem kR_solve_d63 : decode prog_11_method_27_code 63 = .ok (.aload_n 0, 1) := by decide +kernel
theorem kR_solve_d64 : decode prog_11_method_27_code 64 = .ok (.getfield 10, 3) := by decide +kernel
theorem kR_solve_d67 : decode prog_11_method_27_code 67 = .ok (.iload 5, 2) := by decide +kernel
theorem kR_solve_d69 : decode prog_11_method_27_code 69 = .ok (.invokevirtual 63, 3) := by decide +kernel
theorem kR_solve_d72 : decode prog_11_method_27_code 72 = .ok (.if_icmp .eq 7, 3) := by decide +kernel
theorem kR_solve_d75 : decode prog_11_method_27_code 75 = .ok (.iconst 2, 1) := by decide +kernel
theorem kR_solve_d76 : decode prog_11_method_27_code 76 = .ok (.goto 19, 3) := by decide +kernel
theorem kR_solve_d79 : decode prog_11_method_27_code 79 = .ok (.aload_n 0, 1) := by decide +kernel
theorem kR_solve_d80 : decode prog_11_method_27_code 80 = .ok (.iload 4, 2) := by decide +kernel
theorem kR_solve_d82 : decode prog_11_method_27_code 82 = .ok (.iload 5, 2) := by decide +kernel
theorem kR_solve_d84 : decode prog_11_method_27_code 84 = .ok (.invokevirtual 187, 3) := by decide +kernel
theorem kR_solve_d87 : decode prog_11_method_27_code 87 = .ok (.ifCond .eq 7, 3) := by decide +kernel
theorem kR_solve_d90 : decode prog_11_method_27_code 90 = .ok (.iconst 3, 1) := by decide +kernel
theorem kR_solve_d91 : decode prog_11_method_27_code 91 = .ok (.goto 4, 3) := by decide +kernel
theorem kR_solve_d94 : decode prog_11_method_27_code 94 = .ok (.iconst 0, 1) := by decide +kernel
theorem kR_solve_d95 : decode prog_11_method_27_code 95 = .ok (.invokevirtual 123, 3) := by decide +kernel
theorem kR_solve_d98 : decode prog_11_method_27_code 98 = .ok (.ifCond .eq 5, 3) := by decide +kernel
theorem kR_solve_d101 : decode prog_11_method_27_code 101 = .ok (.iconst 0, 1) := by decide +kernel
theorem kR_solve_d102 : decode prog_11_method_27_code 102 = .ok (.ireturn, 1) := by decide +kernel
theorem kR_solve_d103 : decode prog_11_method_27_code 103 = .ok (.aload_n 0, 1) := by decide +kernel
theorem kR_solve_d104 : decode prog_11_method_27_code 104 = .ok (.getfield 21, 3) := by decide +kernel
theorem kR_solve_d107 : decode prog_11_method_27_code 107 = .ok (.iload 4, 2) := by decide +kernel
theorem kR_solve_d109 : decode prog_11_method_27_code 109 = .ok (.iload 5, 2) := by decide +kernel
theorem kR_solve_d111 : decode prog_11_method_27_code 111 = .ok (.invokevirtual 200, 3) := by decide +kernel
theorem kR_solve_d114 : decode prog_11_method_27_code 114 = .ok (.istore 6, 2) := by decide +kernel
theorem kR_solve_d116 : decode prog_11_method_27_code 116 = .ok (.iload 6, 2) := by decide +kernel
theorem kR_solve_d118 : decode prog_11_method_27_code 118 = .ok (.iconst (-1), 1) := by decide +kernel
theorem kR_solve_d119 : decode prog_11_method_27_code 119 = .ok (.if_icmp .eq 18, 3) := by decide +kernel
theorem kR_solve_d122 : decode prog_11_method_27_code 122 = .ok (.aload_n 0, 1) := by decide +kernel
theorem kR_solve_d123 : decode prog_11_method_27_code 123 = .ok (.iload_n 1, 1) := by decide +kernel
theorem kR_solve_d124 : decode prog_11_method_27_code 124 = .ok (.iload 6, 2) := by decide +kernel
theorem kR_solve_d126 : decode prog_11_method_27_code 126 = .ok (.iconst 3, 1) := by decide +kernel
theorem kR_solve_d127 : decode prog_11_method_27_code 127 = .ok (.invokevirtual 164, 3) := by decide +kernel
theorem kR_solve_d130 : decode prog_11_method_27_code 130 = .ok (.ifCond .eq 7, 3) := by decide +kernel
theorem kR_solve_d133 : decode prog_11_method_27_code 133 = .ok (.iconst 1, 1) := by decide +kernel
theorem kR_solve_d134 : decode prog_11_method_27_code 134 = .ok (.goto 4, 3) := by decide +kernel
theorem kR_solve_d137 : decode prog_11_method_27_code 137 = .ok (.iconst 0, 1) := by decide +kernel
theorem kR_solve_d138 : decode prog_11_method_27_code 138 = .ok (.ireturn, 1) := by decide +kernel
theorem kR_invert_d0 : decode prog_11_method_28_code 0 = .ok (.aload_n 0, 1) := by decide +kernel
theorem kR_invert_d1 : decode prog_11_method_28_code 1 = .ok (.iload_n 1, 1) := by decide +kernel
theorem kR_invert_d2 : decode prog_11_method_28_code 2 = .ok (.invokestatic 141, 3) := by decide +kernel
theorem kR_invert_d5 : decode prog_11_method_28_code 5 = .ok (.ifCond .eq 14, 3) := by decide +kernel
theorem kR_invert_d8 : decode prog_11_method_28_code 8 = .ok (.iload_n 2, 1) := by decide +kernel
theorem kR_invert_d9 : decode prog_11_method_28_code 9 = .ok (.invokestatic 141, 3) := by decide +kernel
theorem kR_invert_d12 : decode prog_11_method_28_code 12 = .ok (.ifCond .eq 7, 3) := by decide +kernel
theorem kR_invert_d15 : decode prog_11_method_28_code 15 = .ok (.iconst 0, 1) := by decide +kernel
theorem kR_invert_d16 : decode prog_11_method_28_code 16 = .ok (.goto 4, 3) := by decide +kernel
theorem kR_invert_d19 : decode prog_11_method_28_code 19 = .ok (.iconst 1, 1) := by decide +kernel
theorem kR_invert_d20 : decode prog_11_method_28_code 20 = .ok (.invokevirtual 123, 3) := by decide +kernel
theorem kR_invert_d23 : decode prog_11_method_28_code 23 = .ok (.ifCond .eq 5, 3) := by decide +kernel
theorem kR_invert_d26 : decode prog_11_method_28_code 26 = .ok (.iconst 0, 1) := by decide +kernel
theorem kR_invert_d27 : decode prog_11_method_28_code 27 = .ok (.ireturn, 1) := by decide +kernel
theorem kR_invert_d28 : decode prog_11_method_28_code 28 = .ok (.aload_n 0, 1) := by decide +kernel
theorem kR_invert_d29 : decode prog_11_method_28_code 29 = .ok (.invokevirtual 148, 3) := by decide +kernel
theorem kR_invert_d32 : decode prog_11_method_28_code 32 = .ok (.aload_n 0, 1) := by decide +kernel
theorem kR_invert_d33 : decode prog_11_method_28_code 33 = .ok (.iload_n 2, 1) := by decide +kernel
theorem kR_invert_d34 : decode prog_11_method_28_code 34 = .ok (.invokevirtual 151, 3) := by decide +kernel
theorem kR_invert_d37 : decode prog_11_method_28_code 37 = .ok (.istore_n 3, 1) := by decide +kernel
theorem kR_invert_d38 : decode prog_11_method_28_code 38 = .ok (.aload_n 0, 1) := by decide +kernel
theorem kR_invert_d39 : decode prog_11_method_28_code 39 = .ok (.aload_n 0, 1) := by decide +kernel
theorem kR_invert_d40 : decode prog_11_method_28_code 40 = .ok (.getfield 10, 3) := by decide +kernel
theorem kR_invert_d43 : decode prog_11_method_28_code 43 = .ok (.iload_n 3, 1) := by decide +kernel
theorem kR_invert_d44 : decode prog_11_method_28_code 44 = .ok (.invokevirtual 63, 3) := by decide +kernel
theorem kR_invert_d47 : decode prog_11_method_28_code 47 = .ok (.aload_n 0, 1) := by decide +kernel
theorem kR_invert_d48 : decode prog_11_method_28_code 48 = .ok (.getfield 10, 3) := by decide +kernel
theorem kR_invert_d51 : decode prog_11_method_28_code 51 = .ok (.iload_n 3, 1) := by decide +kernel
theorem kR_invert_d52 : decode prog_11_method_28_code 52 = .ok (.invokevirtual 67, 3) := by decide +kernel
theorem kR_invert_d55 : decode prog_11_method_28_code 55 = .ok (.if_icmp .eq 7, 3) := by decide +kernel
theorem kR_invert_d58 : decode prog_11_method_28_code 58 = .ok (.iconst 2, 1) := by decide +kernel
theorem kR_invert_d59 : decode prog_11_method_28_code 59 = .ok (.goto 4, 3) := by decide +kernel
theorem kR_invert_d62 : decode prog_11_method_28_code 62 = .ok (.iconst 0, 1) := by decide +kernel
theorem kR_invert_d63 : decode prog_11_method_28_code 63 = .ok (.invokevirtual 123, 3) := by decide +kernel
theorem kR_invert_d66 : decode prog_11_method_28_code 66 = .ok (.ifCond .eq 5, 3) := by decide +kernel
theorem kR_invert_d69 : decode prog_11_method_28_code 69 = .ok (.iconst 0, 1) := by decide +kernel
theorem kR_invert_d70 : decode prog_11_method_28_code 70 = .ok (.ireturn, 1) := by decide +kernel
theorem kR_invert_d71 : decode prog_11_method_28_code 71 = .ok (.aload_n 0, 1) := by decide +kernel
theorem kR_invert_d72 : decode prog_11_method_28_code 72 = .ok (.aload_n 0, 1) := by decide +kernel
theorem kR_invert_d73 : decode prog_11_method_28_code 73 = .ok (.iload_n 3, 1) := by decide +kernel
theorem kR_invert_d74 : decode prog_11_method_28_code 74 = .ok (.aload_n 0, 1) := by decide +kernel
theorem kR_invert_d75 : decode prog_11_method_28_code 75 = .ok (.getfield 10, 3) := by decide +kernel
theorem kR_invert_d78 : decode prog_11_method_28_code 78 = .ok (.aload_n 0, 1) := by decide +kernel
theorem kR_invert_d79 : decode prog_11_method_28_code 79 = .ok (.getfield 10, 3) := by decide +kernel
theorem kR_invert_d82 : decode prog_11_method_28_code 82 = .ok (.iload_n 3, 1) := by decide +kernel
theorem kR_invert_d83 : decode prog_11_method_28_code 83 = .ok (.invokevirtual 63, 3) := by decide +kernel
theorem kR_invert_d86 : decode prog_11_method_28_code 86 = .ok (.invokevirtual 167, 3) := by decide +kernel
theorem kR_invert_d89 : decode prog_11_method_28_code 89 = .ok (.invokevirtual 187, 3) := by decide +kernel
theorem kR_invert_d92 : decode prog_11_method_28_code 92 = .ok (.ifCond .eq 7, 3) := by decide +kernel
theorem kR_invert_d95 : decode prog_11_method_28_code 95 = .ok (.iconst 3, 1) := by decide +kernel
theorem kR_invert_d96 : decode prog_11_method_28_code 96 = .ok (.goto 4, 3) := by decide +kernel
theorem kR_invert_d99 : decode prog_11_method_28_code 99 = .ok (.iconst 0, 1) := by decide +kernel
theorem kR_invert_d100 : decode prog_11_method_28_code 100 = .ok (.invokevirtual 123, 3) := by decide +kernel
theorem kR_invert_d103 : decode prog_11_method_28_code 103 = .ok (.ifCond .eq 5, 3) := by decide +kernel
theorem kR_invert_d106 : decode prog_11_method_28_code 106 = .ok (.iconst 0, 1) := by decide +kernel
theorem kR_invert_d107 : decode prog_11_method_28_code 107 = .ok (.ireturn, 1) := by decide +kernel
theorem kR_invert_d108 : decode prog_11_method_28_code 108 = .ok (.aload_n 0, 1) := by decide +kernel
theorem kR_invert_d109 : decode prog_11_method_28_code 109 = .ok (.getfield 21, 3) := by decide +kernel
theorem kR_invert_d112 : decode prog_11_method_28_code 112 = .ok (.iload_n 3, 1) := by decide +kernel
theorem kR_invert_d113 : decode prog_11_method_28_code 113 = .ok (.invokevirtual 203, 3) := by decide +kernel
theorem kR_invert_d116 : decode prog_11_method_28_code 116 = .ok (.istore 4, 2) := by decide +kernel
theorem kR_invert_d118 : decode prog_11_method_28_code 118 = .ok (.iload 4, 2) := by decide +kernel
theorem kR_invert_d120 : decode prog_11_method_28_code 120 = .ok (.iconst (-1), 1) := by decide +kernel
theorem kR_invert_d121 : decode prog_11_method_28_code 121 = .ok (.if_icmp .eq 18, 3) := by decide +kernel
theorem kR_invert_d124 : decode prog_11_method_28_code 124 = .ok (.aload_n 0, 1) := by decide +kernel
theorem kR_invert_d125 : decode prog_11_method_28_code 125 = .ok (.iload_n 1, 1) := by decide +kernel
theorem kR_invert_d126 : decode prog_11_method_28_code 126 = .ok (.iload 4, 2) := by decide +kernel
theorem kR_invert_d128 : decode prog_11_method_28_code 128 = .ok (.iconst 3, 1) := by decide +kernel
theorem kR_invert_d129 : decode prog_11_method_28_code 129 = .ok (.invokevirtual 164, 3) := by decide +kernel
theorem kR_invert_d132 : decode prog_11_method_28_code 132 = .ok (.ifCond .eq 7, 3) := by decide +kernel
theorem kR_invert_d135 : decode prog_11_method_28_code 135 = .ok (.iconst 1, 1) := by decide +kernel
theorem kR_invert_d136 : decode prog_11_method_28_code 136 = .ok (.goto 4, 3) := by decide +kernel
theorem kR_invert_d139 : decode prog_11_method_28_code 139 = .ok (.iconst 0, 1) := by decide +kernel
theorem kR_invert_d140 : decode prog_11_method_28_code 140 = .ok (.ireturn, 1) := by decide +kernel
theorem kR_determinant_d0 : decode prog_11_method_29_code 0 = .ok (.aload_n 0, 1) := by decide +kernel
theorem kR_determinant_d1 : decode prog_11_method_29_code 1 = .ok (.iload_n 1, 1) := by decide +kernel
theorem kR_determinant_d2 : decode prog_11_method_29_code 2 = .ok (.invokestatic 141, 3) := by decide +kernel
theorem kR_determinant_d5 : decode prog_11_method_29_code 5 = .ok (.ifCond .eq 14, 3) := by decide +kernel
theorem kR_determinant_d8 : decode prog_11_method_29_code 8 = .ok (.iload_n 2, 1) := by decide +kernel
theorem kR_determinant_d9 : decode prog_11_method_29_code 9 = .ok (.invokestatic 141, 3) := by decide +kernel
theorem kR_determinant_d12 : decode prog_11_method_29_code 12 = .ok (.ifCond .eq 7, 3) := by decide +kernel
theorem kR_determinant_d15 : decode prog_11_method_29_code 15 = .ok (.iconst 0, 1) := by decide +kernel
theorem kR_determinant_d16 : decode prog_11_method_29_code 16 = .ok (.goto 4, 3) := by decide +kernel
theorem kR_determinant_d19 : decode prog_11_method_29_code 19 = .ok (.iconst 1, 1) := by decide +kernel
theorem kR_determinant_d20 : decode prog_11_method_29_code 20 = .ok (.invokevirtual 123, 3) := by decide +kernel
theorem kR_determinant_d23 : decode prog_11_method_29_code 23 = .ok (.ifCond .eq 4, 3) := by decide +kernel
theorem kR_determinant_d26 : decode prog_11_method_29_code 26 = .ok (.return_, 1) := by decide +kernel
theorem kR_determinant_d27 : decode prog_11_method_29_code 27 = .ok (.aload_n 0, 1) := by decide +kernel
theorem kR_determinant_d28 : decode prog_11_method_29_code 28 = .ok (.invokevirtual 148, 3) := by decide +kernel
theorem kR_determinant_d31 : decode prog_11_method_29_code 31 = .ok (.aload_n 0, 1) := by decide +kernel
theorem kR_determinant_d32 : decode prog_11_method_29_code 32 = .ok (.iload_n 2, 1) := by decide +kernel
theorem kR_determinant_d33 : decode prog_11_method_29_code 33 = .ok (.invokevirtual 151, 3) := by decide +kernel
theorem kR_determinant_d36 : decode prog_11_method_29_code 36 = .ok (.istore_n 3, 1) := by decide +kernel
theorem kR_determinant_d37 : decode prog_11_method_29_code 37 = .ok (.aload_n 0, 1) := by decide +kernel
theorem kR_determinant_d38 : decode prog_11_method_29_code 38 = .ok (.aload_n 0, 1) := by decide +kernel
theorem kR_determinant_d39 : decode prog_11_method_29_code 39 = .ok (.getfield 10, 3) := by decide +kernel
theorem kR_determinant_d42 : decode prog_11_method_29_code 42 = .ok (.iload_n 3, 1) := by decide +kernel
theorem kR_determinant_d43 : decode prog_11_method_29_code 43 = .ok (.invokevirtual 63, 3) := by decide +kernel
theorem kR_determinant_d46 : decode prog_11_method_29_code 46 = .ok (.aload_n 0, 1) := by decide +kernel
theorem kR_determinant_d47 : decode prog_11_method_29_code 47 = .ok (.getfield 10, 3) := by decide +kernel
theorem kR_determinant_d50 : decode prog_11_method_29_code 50 = .ok (.iload_n 3, 1) := by decide +kernel
theorem kR_determinant_d51 : decode prog_11_method_29_code 51 = .ok (.invokevirtual 67, 3) := by decide +kernel
theorem kR_determinant_d54 : decode prog_11_method_29_code 54 = .ok (.if_icmp .eq 7, 3) := by decide +kernel
theorem kR_determinant_d57 : decode prog_11_method_29_code 57 = .ok (.iconst 2, 1) := by decide +kernel
theorem kR_determinant_d58 : decode prog_11_method_29_code 58 = .ok (.goto 17, 3) := by decide +kernel
theorem kR_determinant_d61 : decode prog_11_method_29_code 61 = .ok (.aload_n 0, 1) := by decide +kernel
theorem kR_determinant_d62 : decode prog_11_method_29_code 62 = .ok (.iload_n 3, 1) := by decide +kernel
theorem kR_determinant_d63 : decode prog_11_method_29_code 63 = .ok (.iconst (-1), 1) := by decide +kernel
theorem kR_determinant_d64 : decode prog_11_method_29_code 64 = .ok (.invokevirtual 187, 3) := by decide +kernel
theorem kR_determinant_d67 : decode prog_11_method_29_code 67 = .ok (.ifCond .eq 7, 3) := by decide +kernel
theorem kR_determinant_d70 : decode prog_11_method_29_code 70 = .ok (.iconst 3, 1) := by decide +kernel
theorem kR_determinant_d71 : decode prog_11_method_29_code 71 = .ok (.goto 4, 3) := by decide +kernel
theorem kR_determinant_d74 : decode prog_11_method_29_code 74 = .ok (.iconst 0, 1) := by decide +kernel
theorem kR_determinant_d75 : decode prog_11_method_29_code 75 = .ok (.invokevirtual 123, 3) := by decide +kernel
theorem kR_determinant_d78 : decode prog_11_method_29_code 78 = .ok (.ifCond .eq 4, 3) := by decide +kernel
theorem kR_determinant_d81 : decode prog_11_method_29_code 81 = .ok (.return_, 1) := by decide +kernel
theorem kR_determinant_d82 : decode prog_11_method_29_code 82 = .ok (.aload_n 0, 1) := by decide +kernel
theorem kR_determinant_d83 : decode prog_11_method_29_code 83 = .ok (.getfield 10, 3) := by decide +kernel
theorem kR_determinant_d86 : decode prog_11_method_29_code 86 = .ok (.iload_n 3, 1) := by decide +kernel
theorem kR_determinant_d87 : decode prog_11_method_29_code 87 = .ok (.invokevirtual 206, 3) := by decide +kernel
theorem kR_determinant_d90 : decode prog_11_method_29_code 90 = .ok (.aload_n 0, 1) := by decide +kernel
theorem kR_determinant_d91 : decode prog_11_method_29_code 91 = .ok (.getfield 10, 3) := by decide +kernel
theorem kR_determinant_d94 : decode prog_11_method_29_code 94 = .ok (.iconst 1, 1) := by decide +kernel
theorem kR_determinant_d95 : decode prog_11_method_29_code 95 = .ok (.iconst 1, 1) := by decide +kernel
theorem kR_determinant_d96 : decode prog_11_method_29_code 96 = .ok (.invokevirtual 47, 3) := by decide +kernel
theorem kR_determinant_d99 : decode prog_11_method_29_code 99 = .ok (.istore 4, 2) := by decide +kernel
theorem kR_determinant_d101 : decode prog_11_method_29_code 101 = .ok (.aload_n 0, 1) := by decide +kernel
theorem kR_determinant_d102 : decode prog_11_method_29_code 102 = .ok (.getfield 10, 3) := by decide +kernel
theorem kR_determinant_d105 : decode prog_11_method_29_code 105 = .ok (.iload 4, 2) := by decide +kernel
theorem kR_determinant_d107 : decode prog_11_method_29_code 107 = .ok (.iconst 0, 1) := by decide +kernel
theorem kR_determinant_d108 : decode prog_11_method_29_code 108 = .ok (.invokevirtual 55, 3) := by decide +kernel
theorem kR_determinant_d111 : decode prog_11_method_29_code 111 = .ok (.aload_n 0, 1) := by decide +kernel
theorem kR_determinant_d112 : decode prog_11_method_29_code 112 = .ok (.iload_n 1, 1) := by decide +kernel
theorem kR_determinant_d113 : decode prog_11_method_29_code 113 = .ok (.iload 4, 2) := by decide +kernel
theorem kR_determinant_d115 : decode prog_11_method_29_code 115 = .ok (.iconst 3, 1) := by decide +kernel
theorem kR_determinant_d116 : decode prog_11_method_29_code 116 = .ok (.invokevirtual 164, 3) := by decide +kernel
theorem kR_determinant_d119 : decode prog_11_method_29_code 119 = .ok (.pop, 1) := by decide +kernel
theorem kR_determinant_d120 : decode prog_11_method_29_code 120 = .ok (.return_, 1) := by decide +kernel
theorem kR_hermite_d0 : decode prog_11_method_30_code 0 = .ok (.aload_n 0, 1) := by decide +kernel
theorem kR_hermite_d1 : decode prog_11_method_30_code 1 = .ok (.iload_n 1, 1) := by decide +kernel
theorem kR_hermite_d2 : decode prog_11_method_30_code 2 = .ok (.iload_n 2, 1) := by decide +kernel
theorem kR_hermite_d3 : decode prog_11_method_30_code 3 = .ok (.iconst 0, 1) := by decide +kernel
theorem kR_hermite_d4 : decode prog_11_method_30_code 4 = .ok (.invokevirtual 209, 3) := by decide +kernel
theorem kR_hermite_d7 : decode prog_11_method_30_code 7 = .ok (.ireturn, 1) := by decide +kernel
theorem kR_formed_d0 : decode prog_11_method_32_code 0 = .ok (.aload_n 0, 1) := by decide +kernel
theorem kR_formed_d1 : decode prog_11_method_32_code 1 = .ok (.iload_n 1, 1) := by decide +kernel
theorem kR_formed_d2 : decode prog_11_method_32_code 2 = .ok (.invokestatic 141, 3) := by decide +kernel
theorem kR_formed_d5 : decode prog_11_method_32_code 5 = .ok (.ifCond .eq 14, 3) := by decide +kernel
theorem kR_formed_d8 : decode prog_11_method_32_code 8 = .ok (.iload_n 2, 1) := by decide +kernel
theorem kR_formed_d9 : decode prog_11_method_32_code 9 = .ok (.invokestatic 141, 3) := by decide +kernel
theorem kR_formed_d12 : decode prog_11_method_32_code 12 = .ok (.ifCond .eq 7, 3) := by decide +kernel
theorem kR_formed_d15 : decode prog_11_method_32_code 15 = .ok (.iconst 0, 1) := by decide +kernel
theorem kR_formed_d16 : decode prog_11_method_32_code 16 = .ok (.goto 4, 3) := by decide +kernel
theorem kR_formed_d19 : decode prog_11_method_32_code 19 = .ok (.iconst 1, 1) := by decide +kernel
theorem kR_formed_d20 : decode prog_11_method_32_code 20 = .ok (.invokevirtual 123, 3) := by decide +kernel
theorem kR_formed_d23 : decode prog_11_method_32_code 23 = .ok (.ifCond .eq 5, 3) := by decide +kernel
theorem kR_formed_d26 : decode prog_11_method_32_code 26 = .ok (.iconst 0, 1) := by decide +kernel
theorem kR_formed_d27 : decode prog_11_method_32_code 27 = .ok (.ireturn, 1) := by decide +kernel
theorem kR_formed_d28 : decode prog_11_method_32_code 28 = .ok (.aload_n 0, 1) := by decide +kernel
theorem kR_formed_d29 : decode prog_11_method_32_code 29 = .ok (.invokevirtual 148, 3) := by decide +kernel
theorem kR_formed_d32 : decode prog_11_method_32_code 32 = .ok (.aload_n 0, 1) := by decide +kernel
theorem kR_formed_d33 : decode prog_11_method_32_code 33 = .ok (.iload_n 2, 1) := by decide +kernel
theorem kR_formed_d34 : decode prog_11_method_32_code 34 = .ok (.invokevirtual 151, 3) := by decide +kernel
theorem kR_formed_d37 : decode prog_11_method_32_code 37 = .ok (.istore 4, 2) := by decide +kernel
theorem kR_formed_d39 : decode prog_11_method_32_code 39 = .ok (.aload_n 0, 1) := by decide +kernel
theorem kR_formed_d40 : decode prog_11_method_32_code 40 = .ok (.aload_n 0, 1) := by decide +kernel
theorem kR_formed_d41 : decode prog_11_method_32_code 41 = .ok (.getfield 10, 3) := by decide +kernel
theorem kR_formed_d44 : decode prog_11_method_32_code 44 = .ok (.iload 4, 2) := by decide +kernel
theorem kR_formed_d46 : decode prog_11_method_32_code 46 = .ok (.invokevirtual 212, 3) := by decide +kernel
theorem kR_formed_d49 : decode prog_11_method_32_code 49 = .ok (.ifCond .ne 7, 3) := by decide +kernel
theorem kR_formed_d52 : decode prog_11_method_32_code 52 = .ok (.iconst 2, 1) := by decide +kernel
theorem kR_formed_d53 : decode prog_11_method_32_code 53 = .ok (.goto 18, 3) := by decide +kernel
theorem kR_formed_d56 : decode prog_11_method_32_code 56 = .ok (.aload_n 0, 1) := by decide +kernel
theorem kR_formed_d57 : decode prog_11_method_32_code 57 = .ok (.iload 4, 2) := by decide +kernel
theorem kR_formed_d59 : decode prog_11_method_32_code 59 = .ok (.iconst (-1), 1) := by decide +kernel
theorem kR_formed_d60 : decode prog_11_method_32_code 60 = .ok (.invokevirtual 187, 3) := by decide +kernel
theorem kR_formed_d63 : decode prog_11_method_32_code 63 = .ok (.ifCond .eq 7, 3) := by decide +kernel
theorem kR_formed_d66 : decode prog_11_method_32_code 66 = .ok (.iconst 3, 1) := by decide +kernel
theorem kR_formed_d67 : decode prog_11_method_32_code 67 = .ok (.goto 4, 3) := by decide +kernel
theorem kR_formed_d70 : decode prog_11_method_32_code 70 = .ok (.iconst 0, 1) := by decide +kernel
theorem kR_formed_d71 : decode prog_11_method_32_code 71 = .ok (.invokevirtual 123, 3) := by decide +kernel
theorem kR_formed_d74 : decode prog_11_method_32_code 74 = .ok (.ifCond .eq 5, 3) := by decide +kernel
theorem kR_formed_d77 : decode prog_11_method_32_code 77 = .ok (.iconst 0, 1) := by decide +kernel
theorem kR_formed_d78 : decode prog_11_method_32_code 78 = .ok (.ireturn, 1) := by decide +kernel
theorem kR_formed_d79 : decode prog_11_method_32_code 79 = .ok (.aload_n 0, 1) := by decide +kernel
theorem kR_formed_d80 : decode prog_11_method_32_code 80 = .ok (.getfield 21, 3) := by decide +kernel
theorem kR_formed_d83 : decode prog_11_method_32_code 83 = .ok (.iload 4, 2) := by decide +kernel
theorem kR_formed_d85 : decode prog_11_method_32_code 85 = .ok (.invokevirtual 215, 3) := by decide +kernel
theorem kR_formed_d88 : decode prog_11_method_32_code 88 = .ok (.istore 5, 2) := by decide +kernel
theorem kR_formed_d90 : decode prog_11_method_32_code 90 = .ok (.iload_n 3, 1) := by decide +kernel
theorem kR_formed_d91 : decode prog_11_method_32_code 91 = .ok (.ifCond .eq 15, 3) := by decide +kernel
theorem kR_formed_d94 : decode prog_11_method_32_code 94 = .ok (.aload_n 0, 1) := by decide +kernel
theorem kR_formed_d95 : decode prog_11_method_32_code 95 = .ok (.getfield 21, 3) := by decide +kernel
theorem kR_formed_d98 : decode prog_11_method_32_code 98 = .ok (.iload 4, 2) := by decide +kernel
theorem kR_formed_d100 : decode prog_11_method_32_code 100 = .ok (.invokevirtual 218, 3) := by decide +kernel
theorem kR_formed_d103 : decode prog_11_method_32_code 103 = .ok (.goto 12, 3) := by decide +kernel
theorem kR_formed_d106 : decode prog_11_method_32_code 106 = .ok (.aload_n 0, 1) := by decide +kernel
theorem kR_formed_d107 : decode prog_11_method_32_code 107 = .ok (.getfield 21, 3) := by decide +kernel
theorem kR_formed_d110 : decode prog_11_method_32_code 110 = .ok (.iload 4, 2) := by decide +kernel
theorem kR_formed_d112 : decode prog_11_method_32_code 112 = .ok (.invokevirtual 221, 3) := by decide +kernel
theorem kR_formed_d115 : decode prog_11_method_32_code 115 = .ok (.istore 6, 2) := by decide +kernel
theorem kR_formed_d117 : decode prog_11_method_32_code 117 = .ok (.aload_n 0, 1) := by decide +kernel
theorem kR_formed_d118 : decode prog_11_method_32_code 118 = .ok (.iload_n 1, 1) := by decide +kernel
theorem kR_formed_d119 : decode prog_11_method_32_code 119 = .ok (.iload 6, 2) := by decide +kernel
theorem kR_formed_d121 : decode prog_11_method_32_code 121 = .ok (.iconst 3, 1) := by decide +kernel
theorem kR_formed_d122 : decode prog_11_method_32_code 122 = .ok (.invokevirtual 164, 3) := by decide +kernel
theorem kR_formed_d125 : decode prog_11_method_32_code 125 = .ok (.ifCond .eq 8, 3) := by decide +kernel
theorem kR_formed_d128 : decode prog_11_method_32_code 128 = .ok (.iload 5, 2) := by decide +kernel
theorem kR_formed_d130 : decode prog_11_method_32_code 130 = .ok (.goto 4, 3) := by decide +kernel
theorem kR_formed_d133 : decode prog_11_method_32_code 133 = .ok (.iconst 0, 1) := by decide +kernel
theorem kR_formed_d134 : decode prog_11_method_32_code 134 = .ok (.ireturn, 1) := by decide +kernel
theorem kR_smith_d0 : decode prog_11_method_31_code 0 = .ok (.aload_n 0, 1) := by decide +kernel
theorem kR_smith_d1 : decode prog_11_method_31_code 1 = .ok (.iload_n 1, 1) := by decide +kernel
theorem kR_smith_d2 : decode prog_11_method_31_code 2 = .ok (.iload_n 2, 1) := by decide +kernel
theorem kR_smith_d3 : decode prog_11_method_31_code 3 = .ok (.iconst 1, 1) := by decide +kernel
theorem kR_smith_d4 : decode prog_11_method_31_code 4 = .ok (.invokevirtual 209, 3) := by decide +kernel
theorem kR_smith_d7 : decode prog_11_method_31_code 7 = .ok (.ireturn, 1) := by decide +kernel
theorem kR_size_d0 : decode prog_11_method_33_code 0 = .ok (.aload_n 0, 1) := by decide +kernel
theorem kR_size_d1 : decode prog_11_method_33_code 1 = .ok (.iload_n 1, 1) := by decide +kernel
theorem kR_size_d2 : decode prog_11_method_33_code 2 = .ok (.invokestatic 141, 3) := by decide +kernel
theorem kR_size_d5 : decode prog_11_method_33_code 5 = .ok (.ifCond .eq 7, 3) := by decide +kernel
theorem kR_size_d8 : decode prog_11_method_33_code 8 = .ok (.iconst 0, 1) := by decide +kernel
theorem kR_size_d9 : decode prog_11_method_33_code 9 = .ok (.goto 4, 3) := by decide +kernel
theorem kR_size_d12 : decode prog_11_method_33_code 12 = .ok (.iconst 1, 1) := by decide +kernel
theorem kR_size_d13 : decode prog_11_method_33_code 13 = .ok (.invokevirtual 123, 3) := by decide +kernel
theorem kR_size_d16 : decode prog_11_method_33_code 16 = .ok (.ifCond .eq 5, 3) := by decide +kernel
theorem kR_size_d19 : decode prog_11_method_33_code 19 = .ok (.iconst 0, 1) := by decide +kernel
theorem kR_size_d20 : decode prog_11_method_33_code 20 = .ok (.ireturn, 1) := by decide +kernel
theorem kR_size_d21 : decode prog_11_method_33_code 21 = .ok (.iload_n 2, 1) := by decide +kernel
theorem kR_size_d22 : decode prog_11_method_33_code 22 = .ok (.ifCond .eq 16, 3) := by decide +kernel
theorem kR_size_d25 : decode prog_11_method_33_code 25 = .ok (.aload_n 0, 1) := by decide +kernel
theorem kR_size_d26 : decode prog_11_method_33_code 26 = .ok (.getfield 25, 3) := by decide +kernel
theorem kR_size_d29 : decode prog_11_method_33_code 29 = .ok (.iload_n 1, 1) := by decide +kernel
theorem kR_size_d30 : decode prog_11_method_33_code 30 = .ok (.aaload, 1) := by decide +kernel
theorem kR_size_d31 : decode prog_11_method_33_code 31 = .ok (.iconst 0, 1) := by decide +kernel
theorem kR_size_d32 : decode prog_11_method_33_code 32 = .ok (.invokevirtual 67, 3) := by decide +kernel
theorem kR_size_d35 : decode prog_11_method_33_code 35 = .ok (.goto 13, 3) := by decide +kernel
theorem kR_size_d38 : decode prog_11_method_33_code 38 = .ok (.aload_n 0, 1) := by decide +kernel
theorem kR_size_d39 : decode prog_11_method_33_code 39 = .ok (.getfield 25, 3) := by decide +kernel
theorem kR_size_d42 : decode prog_11_method_33_code 42 = .ok (.iload_n 1, 1) := by decide +kernel
theorem kR_size_d43 : decode prog_11_method_33_code 43 = .ok (.aaload, 1) := by decide +kernel
theorem kR_size_d44 : decode prog_11_method_33_code 44 = .ok (.iconst 0, 1) := by decide +kernel
theorem kR_size_d45 : decode prog_11_method_33_code 45 = .ok (.invokevirtual 63, 3) := by decide +kernel
theorem kR_size_d48 : decode prog_11_method_33_code 48 = .ok (.ireturn, 1) := by decide +kernel
theorem kR_sign_d0 : decode prog_11_method_35_code 0 = .ok (.aload_n 0, 1) := by decide +kernel
theorem kR_sign_d1 : decode prog_11_method_35_code 1 = .ok (.aload_n 0, 1) := by decide +kernel
theorem kR_sign_d2 : decode prog_11_method_35_code 2 = .ok (.iload_n 1, 1) := by decide +kernel
theorem kR_sign_d3 : decode prog_11_method_35_code 3 = .ok (.iload_n 2, 1) := by decide +kernel
theorem kR_sign_d4 : decode prog_11_method_35_code 4 = .ok (.iload_n 3, 1) := by decide +kernel
theorem kR_sign_d5 : decode prog_11_method_35_code 5 = .ok (.invokevirtual 144, 3) := by decide +kernel
theorem kR_sign_d8 : decode prog_11_method_35_code 8 = .ok (.ifCond .eq 7, 3) := by decide +kernel
theorem kR_sign_d11 : decode prog_11_method_35_code 11 = .ok (.iconst 0, 1) := by decide +kernel
theorem kR_sign_d12 : decode prog_11_method_35_code 12 = .ok (.goto 4, 3) := by decide +kernel
theorem kR_sign_d15 : decode prog_11_method_35_code 15 = .ok (.iconst 1, 1) := by decide +kernel
theorem kR_sign_d16 : decode prog_11_method_35_code 16 = .ok (.invokevirtual 123, 3) := by decide +kernel
theorem kR_sign_d19 : decode prog_11_method_35_code 19 = .ok (.ifCond .eq 5, 3) := by decide +kernel
theorem kR_sign_d22 : decode prog_11_method_35_code 22 = .ok (.iconst 0, 1) := by decide +kernel
theorem kR_sign_d23 : decode prog_11_method_35_code 23 = .ok (.ireturn, 1) := by decide +kernel
theorem kR_sign_d24 : decode prog_11_method_35_code 24 = .ok (.aload_n 0, 1) := by decide +kernel
theorem kR_sign_d25 : decode prog_11_method_35_code 25 = .ok (.getfield 25, 3) := by decide +kernel
theorem kR_sign_d28 : decode prog_11_method_35_code 28 = .ok (.iload_n 1, 1) := by decide +kernel
theorem kR_sign_d29 : decode prog_11_method_35_code 29 = .ok (.aaload, 1) := by decide +kernel
theorem kR_sign_d30 : decode prog_11_method_35_code 30 = .ok (.getfield 37, 3) := by decide +kernel
theorem kR_sign_d33 : decode prog_11_method_35_code 33 = .ok (.aload_n 0, 1) := by decide +kernel
theorem kR_sign_d34 : decode prog_11_method_35_code 34 = .ok (.iload_n 1, 1) := by decide +kernel
theorem kR_sign_d35 : decode prog_11_method_35_code 35 = .ok (.iload_n 2, 1) := by decide +kernel
theorem kR_sign_d36 : decode prog_11_method_35_code 36 = .ok (.iload_n 3, 1) := by decide +kernel
theorem kR_sign_d37 : decode prog_11_method_35_code 37 = .ok (.iconst 0, 1) := by decide +kernel
theorem kR_sign_d38 : decode prog_11_method_35_code 38 = .ok (.invokevirtual 224, 3) := by decide +kernel
theorem kR_sign_d41 : decode prog_11_method_35_code 41 = .ok (.invokevirtual 228, 3) := by decide +kernel
theorem kR_sign_d44 : decode prog_11_method_35_code 44 = .ok (.ireturn, 1) := by decide +kernel
theorem kR_half_d0 : decode prog_11_method_34_code 0 = .ok (.iload_n 2, 1) := by decide +kernel
theorem kR_half_d1 : decode prog_11_method_34_code 1 = .ok (.aload_n 0, 1) := by decide +kernel
theorem kR_half_d2 : decode prog_11_method_34_code 2 = .ok (.getfield 25, 3) := by decide +kernel
theorem kR_half_d5 : decode prog_11_method_34_code 5 = .ok (.iload_n 1, 1) := by decide +kernel
theorem kR_half_d6 : decode prog_11_method_34_code 6 = .ok (.aaload, 1) := by decide +kernel
theorem kR_half_d7 : decode prog_11_method_34_code 7 = .ok (.iconst 0, 1) := by decide +kernel
theorem kR_half_d8 : decode prog_11_method_34_code 8 = .ok (.invokevirtual 67, 3) := by decide +kernel
theorem kR_half_d11 : decode prog_11_method_34_code 11 = .ok (.imul, 1) := by decide +kernel
theorem kR_half_d12 : decode prog_11_method_34_code 12 = .ok (.iload_n 3, 1) := by decide +kernel
theorem kR_half_d13 : decode prog_11_method_34_code 13 = .ok (.iadd, 1) := by decide +kernel
theorem kR_half_d14 : decode prog_11_method_34_code 14 = .ok (.istore 5, 2) := by decide +kernel
theorem kR_half_d16 : decode prog_11_method_34_code 16 = .ok (.iload 4, 2) := by decide +kernel
theorem kR_half_d18 : decode prog_11_method_34_code 18 = .ok (.ifCond .eq 18, 3) := by decide +kernel
theorem kR_half_d21 : decode prog_11_method_34_code 21 = .ok (.aload_n 0, 1) := by decide +kernel
theorem kR_half_d22 : decode prog_11_method_34_code 22 = .ok (.getfield 25, 3) := by decide +kernel
theorem kR_half_d25 : decode prog_11_method_34_code 25 = .ok (.iload_n 1, 1) := by decide +kernel
theorem kR_half_d26 : decode prog_11_method_34_code 26 = .ok (.aaload, 1) := by decide +kernel
theorem kR_half_d27 : decode prog_11_method_34_code 27 = .ok (.iconst 0, 1) := by decide +kernel
theorem kR_half_d28 : decode prog_11_method_34_code 28 = .ok (.iload 5, 2) := by decide +kernel
theorem kR_half_d30 : decode prog_11_method_34_code 30 = .ok (.invokevirtual 83, 3) := by decide +kernel
theorem kR_half_d33 : decode prog_11_method_34_code 33 = .ok (.goto 15, 3) := by decide +kernel
theorem kR_half_d36 : decode prog_11_method_34_code 36 = .ok (.aload_n 0, 1) := by decide +kernel
theorem kR_half_d37 : decode prog_11_method_34_code 37 = .ok (.getfield 25, 3) := by decide +kernel
theorem kR_half_d40 : decode prog_11_method_34_code 40 = .ok (.iload_n 1, 1) := by decide +kernel
theorem kR_half_d41 : decode prog_11_method_34_code 41 = .ok (.aaload, 1) := by decide +kernel
theorem kR_half_d42 : decode prog_11_method_34_code 42 = .ok (.iconst 0, 1) := by decide +kernel
theorem kR_half_d43 : decode prog_11_method_34_code 43 = .ok (.iload 5, 2) := by decide +kernel
theorem kR_half_d45 : decode prog_11_method_34_code 45 = .ok (.invokevirtual 73, 3) := by decide +kernel
theorem kR_half_d48 : decode prog_11_method_34_code 48 = .ok (.ireturn, 1) := by decide +kernel
theorem kR_length_d0 : decode prog_11_method_36_code 0 = .ok (.aload_n 0, 1) := by decide +kernel
theorem kR_length_d1 : decode prog_11_method_36_code 1 = .ok (.aload_n 0, 1) := by decide +kernel
theorem kR_length_d2 : decode prog_11_method_36_code 2 = .ok (.iload_n 1, 1) := by decide +kernel
theorem kR_length_d3 : decode prog_11_method_36_code 3 = .ok (.iload_n 2, 1) := by decide +kernel
theorem kR_length_d4 : decode prog_11_method_36_code 4 = .ok (.iload_n 3, 1) := by decide +kernel
theorem kR_length_d5 : decode prog_11_method_36_code 5 = .ok (.invokevirtual 144, 3) := by decide +kernel
theorem kR_length_d8 : decode prog_11_method_36_code 8 = .ok (.ifCond .eq 7, 3) := by decide +kernel
theorem kR_length_d11 : decode prog_11_method_36_code 11 = .ok (.iconst 0, 1) := by decide +kernel
theorem kR_length_d12 : decode prog_11_method_36_code 12 = .ok (.goto 4, 3) := by decide +kernel
theorem kR_length_d15 : decode prog_11_method_36_code 15 = .ok (.iconst 1, 1) := by decide +kernel
theorem kR_length_d16 : decode prog_11_method_36_code 16 = .ok (.invokevirtual 123, 3) := by decide +kernel
theorem kR_length_d19 : decode prog_11_method_36_code 19 = .ok (.ifCond .eq 5, 3) := by decide +kernel
theorem kR_length_d22 : decode prog_11_method_36_code 22 = .ok (.iconst 0, 1) := by decide +kernel
theorem kR_length_d23 : decode prog_11_method_36_code 23 = .ok (.ireturn, 1) := by decide +kernel
theorem kR_length_d24 : decode prog_11_method_36_code 24 = .ok (.aload_n 0, 1) := by decide +kernel
theorem kR_length_d25 : decode prog_11_method_36_code 25 = .ok (.getfield 25, 3) := by decide +kernel
theorem kR_length_d28 : decode prog_11_method_36_code 28 = .ok (.iload_n 1, 1) := by decide +kernel
theorem kR_length_d29 : decode prog_11_method_36_code 29 = .ok (.aaload, 1) := by decide +kernel
theorem kR_length_d30 : decode prog_11_method_36_code 30 = .ok (.getfield 37, 3) := by decide +kernel
theorem kR_length_d33 : decode prog_11_method_36_code 33 = .ok (.aload_n 0, 1) := by decide +kernel
theorem kR_length_d34 : decode prog_11_method_36_code 34 = .ok (.iload_n 1, 1) := by decide +kernel
theorem kR_length_d35 : decode prog_11_method_36_code 35 = .ok (.iload_n 2, 1) := by decide +kernel
theorem kR_length_d36 : decode prog_11_method_36_code 36 = .ok (.iload_n 3, 1) := by decide +kernel
theorem kR_length_d37 : decode prog_11_method_36_code 37 = .ok (.iload 4, 2) := by decide +kernel
theorem kR_length_d39 : decode prog_11_method_36_code 39 = .ok (.invokevirtual 224, 3) := by decide +kernel
theorem kR_length_d42 : decode prog_11_method_36_code 42 = .ok (.invokevirtual 108, 3) := by decide +kernel
theorem kR_length_d45 : decode prog_11_method_36_code 45 = .ok (.ireturn, 1) := by decide +kernel
theorem kR_limb_d0 : decode prog_11_method_37_code 0 = .ok (.aload_n 0, 1) := by decide +kernel
theorem kR_limb_d1 : decode prog_11_method_37_code 1 = .ok (.aload_n 0, 1) := by decide +kernel
theorem kR_limb_d2 : decode prog_11_method_37_code 2 = .ok (.iload_n 1, 1) := by decide +kernel
theorem kR_limb_d3 : decode prog_11_method_37_code 3 = .ok (.iload_n 2, 1) := by decide +kernel
theorem kR_limb_d4 : decode prog_11_method_37_code 4 = .ok (.iload_n 3, 1) := by decide +kernel
theorem kR_limb_d5 : decode prog_11_method_37_code 5 = .ok (.invokevirtual 144, 3) := by decide +kernel
theorem kR_limb_d8 : decode prog_11_method_37_code 8 = .ok (.ifCond .eq 12, 3) := by decide +kernel
theorem kR_limb_d11 : decode prog_11_method_37_code 11 = .ok (.iload 5, 2) := by decide +kernel
theorem kR_limb_d13 : decode prog_11_method_37_code 13 = .ok (.ifCond .lt 7, 3) := by decide +kernel
theorem kR_limb_d16 : decode prog_11_method_37_code 16 = .ok (.iconst 0, 1) := by decide +kernel
theorem kR_limb_d17 : decode prog_11_method_37_code 17 = .ok (.goto 4, 3) := by decide +kernel
theorem kR_limb_d20 : decode prog_11_method_37_code 20 = .ok (.iconst 1, 1) := by decide +kernel
theorem kR_limb_d21 : decode prog_11_method_37_code 21 = .ok (.invokevirtual 123, 3) := by decide +kernel
theorem kR_limb_d24 : decode prog_11_method_37_code 24 = .ok (.ifCond .eq 5, 3) := by decide +kernel
theorem kR_limb_d27 : decode prog_11_method_37_code 27 = .ok (.iconst 0, 1) := by decide +kernel
theorem kR_limb_d28 : decode prog_11_method_37_code 28 = .ok (.ireturn, 1) := by decide +kernel
theorem kR_limb_d29 : decode prog_11_method_37_code 29 = .ok (.aload_n 0, 1) := by decide +kernel
theorem kR_limb_d30 : decode prog_11_method_37_code 30 = .ok (.getfield 25, 3) := by decide +kernel
theorem kR_limb_d33 : decode prog_11_method_37_code 33 = .ok (.iload_n 1, 1) := by decide +kernel
theorem kR_limb_d34 : decode prog_11_method_37_code 34 = .ok (.aaload, 1) := by decide +kernel
theorem kR_limb_d35 : decode prog_11_method_37_code 35 = .ok (.getfield 37, 3) := by decide +kernel
theorem kR_limb_d38 : decode prog_11_method_37_code 38 = .ok (.astore 6, 2) := by decide +kernel
theorem kR_limb_d40 : decode prog_11_method_37_code 40 = .ok (.aload_n 0, 1) := by decide +kernel
theorem kR_limb_d41 : decode prog_11_method_37_code 41 = .ok (.iload_n 1, 1) := by decide +kernel
theorem kR_limb_d42 : decode prog_11_method_37_code 42 = .ok (.iload_n 2, 1) := by decide +kernel
theorem kR_limb_d43 : decode prog_11_method_37_code 43 = .ok (.iload_n 3, 1) := by decide +kernel
theorem kR_limb_d44 : decode prog_11_method_37_code 44 = .ok (.iload 4, 2) := by decide +kernel
theorem kR_limb_d46 : decode prog_11_method_37_code 46 = .ok (.invokevirtual 224, 3) := by decide +kernel
theorem kR_limb_d49 : decode prog_11_method_37_code 49 = .ok (.istore 7, 2) := by decide +kernel
theorem kR_limb_d51 : decode prog_11_method_37_code 51 = .ok (.iload 5, 2) := by decide +kernel
theorem kR_limb_d53 : decode prog_11_method_37_code 53 = .ok (.sipush 200, 3) := by decide +kernel
theorem kR_limb_d56 : decode prog_11_method_37_code 56 = .ok (.if_icmp .le 5, 3) := by decide +kernel
theorem kR_limb_d59 : decode prog_11_method_37_code 59 = .ok (.iconst 0, 1) := by decide +kernel
theorem kR_limb_d60 : decode prog_11_method_37_code 60 = .ok (.ireturn, 1) := by decide +kernel
theorem kR_limb_d61 : decode prog_11_method_37_code 61 = .ok (.iconst 0, 1) := by decide +kernel
theorem kR_limb_d62 : decode prog_11_method_37_code 62 = .ok (.istore 8, 2) := by decide +kernel
theorem kR_limb_d64 : decode prog_11_method_37_code 64 = .ok (.bipush 31, 2) := by decide +kernel
theorem kR_limb_d66 : decode prog_11_method_37_code 66 = .ok (.istore 9, 2) := by decide +kernel
theorem kR_limb_d68 : decode prog_11_method_37_code 68 = .ok (.iload 9, 2) := by decide +kernel
theorem kR_limb_d70 : decode prog_11_method_37_code 70 = .ok (.ifCond .lt 46, 3) := by decide +kernel
theorem kR_limb_d73 : decode prog_11_method_37_code 73 = .ok (.bipush 32, 2) := by decide +kernel
theorem kR_limb_d75 : decode prog_11_method_37_code 75 = .ok (.iload 5, 2) := by decide +kernel
theorem kR_limb_d77 : decode prog_11_method_37_code 77 = .ok (.imul, 1) := by decide +kernel
theorem kR_limb_d78 : decode prog_11_method_37_code 78 = .ok (.iload 9, 2) := by decide +kernel
theorem kR_limb_d80 : decode prog_11_method_37_code 80 = .ok (.iadd, 1) := by decide +kernel
theorem kR_limb_d81 : decode prog_11_method_37_code 81 = .ok (.istore 10, 2) := by decide +kernel
theorem kR_limb_d83 : decode prog_11_method_37_code 83 = .ok (.iconst 2, 1) := by decide +kernel
theorem kR_limb_d84 : decode prog_11_method_37_code 84 = .ok (.iload 8, 2) := by decide +kernel
theorem kR_limb_d86 : decode prog_11_method_37_code 86 = .ok (.imul, 1) := by decide +kernel
theorem kR_limb_d87 : decode prog_11_method_37_code 87 = .ok (.aload 6, 2) := by decide +kernel
theorem kR_limb_d89 : decode prog_11_method_37_code 89 = .ok (.iload 7, 2) := by decide +kernel
theorem kR_limb_d91 : decode prog_11_method_37_code 91 = .ok (.iload 10, 2) := by decide +kernel
theorem kR_limb_d93 : decode prog_11_method_37_code 93 = .ok (.bipush 15, 2) := by decide +kernel
theorem kR_limb_d95 : decode prog_11_method_37_code 95 = .ok (.idiv, 1) := by decide +kernel
theorem kR_limb_d96 : decode prog_11_method_37_code 96 = .ok (.invokevirtual 231, 3) := by decide +kernel
theorem kR_limb_d99 : decode prog_11_method_37_code 99 = .ok (.iload 10, 2) := by decide +kernel
theorem kR_limb_d101 : decode prog_11_method_37_code 101 = .ok (.bipush 15, 2) := by decide +kernel
theorem kR_limb_d103 : decode prog_11_method_37_code 103 = .ok (.irem, 1) := by decide +kernel
theorem kR_limb_d104 : decode prog_11_method_37_code 104 = .ok (.ishr, 1) := by decide +kernel
theorem kR_limb_d105 : decode prog_11_method_37_code 105 = .ok (.iconst 1, 1) := by decide +kernel
theorem kR_limb_d106 : decode prog_11_method_37_code 106 = .ok (.iand, 1) := by decide +kernel
theorem kR_limb_d107 : decode prog_11_method_37_code 107 = .ok (.iadd, 1) := by decide +kernel
theorem kR_limb_d108 : decode prog_11_method_37_code 108 = .ok (.istore 8, 2) := by decide +kernel
theorem kR_limb_d110 : decode prog_11_method_37_code 110 = .ok (.iinc 9 (-1), 3) := by decide +kernel
theorem kR_limb_d113 : decode prog_11_method_37_code 113 = .ok (.goto (-45), 3) := by decide +kernel
theorem kR_limb_d116 : decode prog_11_method_37_code 116 = .ok (.iload 8, 2) := by decide +kernel
theorem kR_limb_d118 : decode prog_11_method_37_code 118 = .ok (.ireturn, 1) := by decide +kernel
theorem kR_same_d0 : decode prog_11_method_38_code 0 = .ok (.aload_n 0, 1) := by decide +kernel
theorem kR_same_d1 : decode prog_11_method_38_code 1 = .ok (.iload_n 1, 1) := by decide +kernel
theorem kR_same_d2 : decode prog_11_method_38_code 2 = .ok (.invokestatic 141, 3) := by decide +kernel
theorem kR_same_d5 : decode prog_11_method_38_code 5 = .ok (.ifCond .eq 14, 3) := by decide +kernel
theorem kR_same_d8 : decode prog_11_method_38_code 8 = .ok (.iload_n 2, 1) := by decide +kernel
theorem kR_same_d9 : decode prog_11_method_38_code 9 = .ok (.invokestatic 141, 3) := by decide +kernel
theorem kR_same_d12 : decode prog_11_method_38_code 12 = .ok (.ifCond .eq 7, 3) := by decide +kernel
theorem kR_same_d15 : decode prog_11_method_38_code 15 = .ok (.iconst 0, 1) := by decide +kernel
theorem kR_same_d16 : decode prog_11_method_38_code 16 = .ok (.goto 4, 3) := by decide +kernel
theorem kR_same_d19 : decode prog_11_method_38_code 19 = .ok (.iconst 1, 1) := by decide +kernel
theorem kR_same_d20 : decode prog_11_method_38_code 20 = .ok (.invokevirtual 123, 3) := by decide +kernel
theorem kR_same_d23 : decode prog_11_method_38_code 23 = .ok (.ifCond .eq 5, 3) := by decide +kernel
theorem kR_same_d26 : decode prog_11_method_38_code 26 = .ok (.iconst 0, 1) := by decide +kernel
theorem kR_same_d27 : decode prog_11_method_38_code 27 = .ok (.ireturn, 1) := by decide +kernel
theorem kR_same_d28 : decode prog_11_method_38_code 28 = .ok (.aload_n 0, 1) := by decide +kernel
theorem kR_same_d29 : decode prog_11_method_38_code 29 = .ok (.invokevirtual 148, 3) := by decide +kernel
theorem kR_same_d32 : decode prog_11_method_38_code 32 = .ok (.aload_n 0, 1) := by decide +kernel
theorem kR_same_d33 : decode prog_11_method_38_code 33 = .ok (.iload_n 1, 1) := by decide +kernel
theorem kR_same_d34 : decode prog_11_method_38_code 34 = .ok (.invokevirtual 151, 3) := by decide +kernel
theorem kR_same_d37 : decode prog_11_method_38_code 37 = .ok (.istore_n 3, 1) := by decide +kernel
theorem kR_same_d38 : decode prog_11_method_38_code 38 = .ok (.aload_n 0, 1) := by decide +kernel
theorem kR_same_d39 : decode prog_11_method_38_code 39 = .ok (.getfield 10, 3) := by decide +kernel
theorem kR_same_d42 : decode prog_11_method_38_code 42 = .ok (.iload_n 3, 1) := by decide +kernel
theorem kR_same_d43 : decode prog_11_method_38_code 43 = .ok (.aload_n 0, 1) := by decide +kernel
theorem kR_same_d44 : decode prog_11_method_38_code 44 = .ok (.iload_n 2, 1) := by decide +kernel
theorem kR_same_d45 : decode prog_11_method_38_code 45 = .ok (.invokevirtual 151, 3) := by decide +kernel
theorem kR_same_d48 : decode prog_11_method_38_code 48 = .ok (.invokevirtual 234, 3) := by decide +kernel
theorem kR_same_d51 : decode prog_11_method_38_code 51 = .ok (.ireturn, 1) := by decide +kernel
