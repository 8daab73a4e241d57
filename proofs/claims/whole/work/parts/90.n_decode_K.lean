/-! decode rows of ExactForms$Desk -/
theorem kK_init_d0 : decode prog_2_method_1_code 0 = .ok (.aload_n 0, 1) := by decide +kernel
theorem kK_init_d1 : decode prog_2_method_1_code 1 = .ok (.invokespecial 3, 3) := by decide +kernel
theorem kK_init_d4 : decode prog_2_method_1_code 4 = .ok (.aload_n 0, 1) := by decide +kernel
theorem kK_init_d5 : decode prog_2_method_1_code 5 = .ok (.new 9, 3) := by decide +kernel
theorem kK_init_d8 : decode prog_2_method_1_code 8 = .ok (.dup, 1) := by decide +kernel
theorem kK_init_d9 : decode prog_2_method_1_code 9 = .ok (.invokespecial 11, 3) := by decide +kernel
theorem kK_init_d12 : decode prog_2_method_1_code 12 = .ok (.putfield 12, 3) := by decide +kernel
theorem kK_init_d15 : decode prog_2_method_1_code 15 = .ok (.aload_n 0, 1) := by decide +kernel
theorem kK_init_d16 : decode prog_2_method_1_code 16 = .ok (.new 18, 3) := by decide +kernel
theorem kK_init_d19 : decode prog_2_method_1_code 19 = .ok (.dup, 1) := by decide +kernel
theorem kK_init_d20 : decode prog_2_method_1_code 20 = .ok (.aload_n 0, 1) := by decide +kernel
theorem kK_init_d21 : decode prog_2_method_1_code 21 = .ok (.getfield 12, 3) := by decide +kernel
theorem kK_init_d24 : decode prog_2_method_1_code 24 = .ok (.invokespecial 20, 3) := by decide +kernel
theorem kK_init_d27 : decode prog_2_method_1_code 27 = .ok (.putfield 23, 3) := by decide +kernel
theorem kK_init_d30 : decode prog_2_method_1_code 30 = .ok (.aload_n 0, 1) := by decide +kernel
theorem kK_init_d31 : decode prog_2_method_1_code 31 = .ok (.new 27, 3) := by decide +kernel
theorem kK_init_d34 : decode prog_2_method_1_code 34 = .ok (.dup, 1) := by decide +kernel
theorem kK_init_d35 : decode prog_2_method_1_code 35 = .ok (.sipush 252, 3) := by decide +kernel
theorem kK_init_d38 : decode prog_2_method_1_code 38 = .ok (.invokespecial 29, 3) := by decide +kernel
theorem kK_init_d41 : decode prog_2_method_1_code 41 = .ok (.putfield 32, 3) := by decide +kernel
theorem kK_init_d44 : decode prog_2_method_1_code 44 = .ok (.aload_n 0, 1) := by decide +kernel
theorem kK_init_d45 : decode prog_2_method_1_code 45 = .ok (.new 27, 3) := by decide +kernel
theorem kK_init_d48 : decode prog_2_method_1_code 48 = .ok (.dup, 1) := by decide +kernel
theorem kK_init_d49 : decode prog_2_method_1_code 49 = .ok (.sipush 252, 3) := by decide +kernel
theorem kK_init_d52 : decode prog_2_method_1_code 52 = .ok (.invokespecial 29, 3) := by decide +kernel
theorem kK_init_d55 : decode prog_2_method_1_code 55 = .ok (.putfield 36, 3) := by decide +kernel
theorem kK_init_d58 : decode prog_2_method_1_code 58 = .ok (.aload_n 0, 1) := by decide +kernel
theorem kK_init_d59 : decode prog_2_method_1_code 59 = .ok (.new 27, 3) := by decide +kernel
theorem kK_init_d62 : decode prog_2_method_1_code 62 = .ok (.dup, 1) := by decide +kernel
theorem kK_init_d63 : decode prog_2_method_1_code 63 = .ok (.sipush 252, 3) := by decide +kernel
theorem kK_init_d66 : decode prog_2_method_1_code 66 = .ok (.invokespecial 29, 3) := by decide +kernel
theorem kK_init_d69 : decode prog_2_method_1_code 69 = .ok (.putfield 39, 3) := by decide +kernel
theorem kK_init_d72 : decode prog_2_method_1_code 72 = .ok (.aload_n 0, 1) := by decide +kernel
theorem kK_init_d73 : decode prog_2_method_1_code 73 = .ok (.new 27, 3) := by decide +kernel
theorem kK_init_d76 : decode prog_2_method_1_code 76 = .ok (.dup, 1) := by decide +kernel
theorem kK_init_d77 : decode prog_2_method_1_code 77 = .ok (.sipush 252, 3) := by decide +kernel
theorem kK_init_d80 : decode prog_2_method_1_code 80 = .ok (.invokespecial 29, 3) := by decide +kernel
theorem kK_init_d83 : decode prog_2_method_1_code 83 = .ok (.putfield 42, 3) := by decide +kernel
theorem kK_init_d86 : decode prog_2_method_1_code 86 = .ok (.aload_n 0, 1) := by decide +kernel
theorem kK_init_d87 : decode prog_2_method_1_code 87 = .ok (.new 27, 3) := by decide +kernel
theorem kK_init_d90 : decode prog_2_method_1_code 90 = .ok (.dup, 1) := by decide +kernel
theorem kK_init_d91 : decode prog_2_method_1_code 91 = .ok (.sipush 252, 3) := by decide +kernel
theorem kK_init_d94 : decode prog_2_method_1_code 94 = .ok (.invokespecial 29, 3) := by decide +kernel
theorem kK_init_d97 : decode prog_2_method_1_code 97 = .ok (.putfield 45, 3) := by decide +kernel
theorem kK_init_d100 : decode prog_2_method_1_code 100 = .ok (.aload_n 0, 1) := by decide +kernel
theorem kK_init_d101 : decode prog_2_method_1_code 101 = .ok (.new 27, 3) := by decide +kernel
theorem kK_init_d104 : decode prog_2_method_1_code 104 = .ok (.dup, 1) := by decide +kernel
theorem kK_init_d105 : decode prog_2_method_1_code 105 = .ok (.sipush 252, 3) := by decide +kernel
theorem kK_init_d108 : decode prog_2_method_1_code 108 = .ok (.invokespecial 29, 3) := by decide +kernel
theorem kK_init_d111 : decode prog_2_method_1_code 111 = .ok (.putfield 48, 3) := by decide +kernel
theorem kK_init_d114 : decode prog_2_method_1_code 114 = .ok (.return_, 1) := by decide +kernel
theorem kK_commonDivisor_d0 : decode prog_2_method_3_code 0 = .ok (.aload_n 0, 1) := by decide +kernel
theorem kK_commonDivisor_d1 : decode prog_2_method_3_code 1 = .ok (.getfield 42, 3) := by decide +kernel
theorem kK_commonDivisor_d4 : decode prog_2_method_3_code 4 = .ok (.aload_n 1, 1) := by decide +kernel
theorem kK_commonDivisor_d5 : decode prog_2_method_3_code 5 = .ok (.getfield 58, 3) := by decide +kernel
theorem kK_commonDivisor_d8 : decode prog_2_method_3_code 8 = .ok (.invokevirtual 63, 3) := by decide +kernel
theorem kK_commonDivisor_d11 : decode prog_2_method_3_code 11 = .ok (.iload_n 2, 1) := by decide +kernel
theorem kK_commonDivisor_d12 : decode prog_2_method_3_code 12 = .ok (.istore 4, 2) := by decide +kernel
theorem kK_commonDivisor_d14 : decode prog_2_method_3_code 14 = .ok (.iload 4, 2) := by decide +kernel
theorem kK_commonDivisor_d16 : decode prog_2_method_3_code 16 = .ok (.iload_n 3, 1) := by decide +kernel
theorem kK_commonDivisor_d17 : decode prog_2_method_3_code 17 = .ok (.if_icmp .ge 95, 3) := by decide +kernel
theorem kK_commonDivisor_d20 : decode prog_2_method_3_code 20 = .ok (.aload_n 0, 1) := by decide +kernel
theorem kK_commonDivisor_d21 : decode prog_2_method_3_code 21 = .ok (.getfield 42, 3) := by decide +kernel
theorem kK_commonDivisor_d24 : decode prog_2_method_3_code 24 = .ok (.invokevirtual 67, 3) := by decide +kernel
theorem kK_commonDivisor_d27 : decode prog_2_method_3_code 27 = .ok (.ifCond .ne 85, 3) := by decide +kernel
theorem kK_commonDivisor_d30 : decode prog_2_method_3_code 30 = .ok (.iconst 0, 1) := by decide +kernel
theorem kK_commonDivisor_d31 : decode prog_2_method_3_code 31 = .ok (.istore 5, 2) := by decide +kernel
theorem kK_commonDivisor_d33 : decode prog_2_method_3_code 33 = .ok (.iload 5, 2) := by decide +kernel
theorem kK_commonDivisor_d35 : decode prog_2_method_3_code 35 = .ok (.aload_n 1, 1) := by decide +kernel
theorem kK_commonDivisor_d36 : decode prog_2_method_3_code 36 = .ok (.getfield 71, 3) := by decide +kernel
theorem kK_commonDivisor_d39 : decode prog_2_method_3_code 39 = .ok (.if_icmp .ge 67, 3) := by decide +kernel
theorem kK_commonDivisor_d42 : decode prog_2_method_3_code 42 = .ok (.aload_n 0, 1) := by decide +kernel
theorem kK_commonDivisor_d43 : decode prog_2_method_3_code 43 = .ok (.getfield 42, 3) := by decide +kernel
theorem kK_commonDivisor_d46 : decode prog_2_method_3_code 46 = .ok (.invokevirtual 67, 3) := by decide +kernel
theorem kK_commonDivisor_d49 : decode prog_2_method_3_code 49 = .ok (.ifCond .ne 57, 3) := by decide +kernel
theorem kK_commonDivisor_d52 : decode prog_2_method_3_code 52 = .ok (.aload_n 1, 1) := by decide +kernel
theorem kK_commonDivisor_d53 : decode prog_2_method_3_code 53 = .ok (.iload 4, 2) := by decide +kernel
theorem kK_commonDivisor_d55 : decode prog_2_method_3_code 55 = .ok (.iload 5, 2) := by decide +kernel
theorem kK_commonDivisor_d57 : decode prog_2_method_3_code 57 = .ok (.invokevirtual 75, 3) := by decide +kernel
theorem kK_commonDivisor_d60 : decode prog_2_method_3_code 60 = .ok (.getfield 79, 3) := by decide +kernel
theorem kK_commonDivisor_d63 : decode prog_2_method_3_code 63 = .ok (.ifCond .le 37, 3) := by decide +kernel
theorem kK_commonDivisor_d66 : decode prog_2_method_3_code 66 = .ok (.aload_n 0, 1) := by decide +kernel
theorem kK_commonDivisor_d67 : decode prog_2_method_3_code 67 = .ok (.getfield 23, 3) := by decide +kernel
theorem kK_commonDivisor_d70 : decode prog_2_method_3_code 70 = .ok (.aload_n 1, 1) := by decide +kernel
theorem kK_commonDivisor_d71 : decode prog_2_method_3_code 71 = .ok (.iload 4, 2) := by decide +kernel
theorem kK_commonDivisor_d73 : decode prog_2_method_3_code 73 = .ok (.iload 5, 2) := by decide +kernel
theorem kK_commonDivisor_d75 : decode prog_2_method_3_code 75 = .ok (.invokevirtual 75, 3) := by decide +kernel
theorem kK_commonDivisor_d78 : decode prog_2_method_3_code 78 = .ok (.aload_n 0, 1) := by decide +kernel
theorem kK_commonDivisor_d79 : decode prog_2_method_3_code 79 = .ok (.getfield 42, 3) := by decide +kernel
theorem kK_commonDivisor_d82 : decode prog_2_method_3_code 82 = .ok (.iconst 0, 1) := by decide +kernel
theorem kK_commonDivisor_d83 : decode prog_2_method_3_code 83 = .ok (.invokevirtual 82, 3) := by decide +kernel
theorem kK_commonDivisor_d86 : decode prog_2_method_3_code 86 = .ok (.aload_n 0, 1) := by decide +kernel
theorem kK_commonDivisor_d87 : decode prog_2_method_3_code 87 = .ok (.getfield 42, 3) := by decide +kernel
theorem kK_commonDivisor_d90 : decode prog_2_method_3_code 90 = .ok (.aload_n 0, 1) := by decide +kernel
theorem kK_commonDivisor_d91 : decode prog_2_method_3_code 91 = .ok (.getfield 23, 3) := by decide +kernel
theorem kK_commonDivisor_d94 : decode prog_2_method_3_code 94 = .ok (.getfield 85, 3) := by decide +kernel
theorem kK_commonDivisor_d97 : decode prog_2_method_3_code 97 = .ok (.invokevirtual 63, 3) := by decide +kernel
theorem kK_commonDivisor_d100 : decode prog_2_method_3_code 100 = .ok (.iinc 5 1, 3) := by decide +kernel
theorem kK_commonDivisor_d103 : decode prog_2_method_3_code 103 = .ok (.goto (-70), 3) := by decide +kernel
theorem kK_commonDivisor_d106 : decode prog_2_method_3_code 106 = .ok (.iinc 4 1, 3) := by decide +kernel
theorem kK_commonDivisor_d109 : decode prog_2_method_3_code 109 = .ok (.goto (-95), 3) := by decide +kernel
theorem kK_commonDivisor_d112 : decode prog_2_method_3_code 112 = .ok (.return_, 1) := by decide +kernel
theorem kK_meet_d0 : decode prog_2_method_4_code 0 = .ok (.aload_n 0, 1) := by decide +kernel
theorem kK_meet_d1 : decode prog_2_method_4_code 1 = .ok (.getfield 23, 3) := by decide +kernel
theorem kK_meet_d4 : decode prog_2_method_4_code 4 = .ok (.aload_n 1, 1) := by decide +kernel
theorem kK_meet_d5 : decode prog_2_method_4_code 5 = .ok (.aload_n 2, 1) := by decide +kernel
theorem kK_meet_d6 : decode prog_2_method_4_code 6 = .ok (.iconst 0, 1) := by decide +kernel
theorem kK_meet_d7 : decode prog_2_method_4_code 7 = .ok (.invokevirtual 82, 3) := by decide +kernel
theorem kK_meet_d10 : decode prog_2_method_4_code 10 = .ok (.aload_n 0, 1) := by decide +kernel
theorem kK_meet_d11 : decode prog_2_method_4_code 11 = .ok (.getfield 12, 3) := by decide +kernel
theorem kK_meet_d14 : decode prog_2_method_4_code 14 = .ok (.aload_n 2, 1) := by decide +kernel
theorem kK_meet_d15 : decode prog_2_method_4_code 15 = .ok (.aload_n 0, 1) := by decide +kernel
theorem kK_meet_d16 : decode prog_2_method_4_code 16 = .ok (.getfield 23, 3) := by decide +kernel
theorem kK_meet_d19 : decode prog_2_method_4_code 19 = .ok (.getfield 85, 3) := by decide +kernel
theorem kK_meet_d22 : decode prog_2_method_4_code 22 = .ok (.invokevirtual 88, 3) := by decide +kernel
theorem kK_meet_d25 : decode prog_2_method_4_code 25 = .ok (.aload_n 0, 1) := by decide +kernel
theorem kK_meet_d26 : decode prog_2_method_4_code 26 = .ok (.getfield 45, 3) := by decide +kernel
theorem kK_meet_d29 : decode prog_2_method_4_code 29 = .ok (.aload_n 0, 1) := by decide +kernel
theorem kK_meet_d30 : decode prog_2_method_4_code 30 = .ok (.getfield 12, 3) := by decide +kernel
theorem kK_meet_d33 : decode prog_2_method_4_code 33 = .ok (.getfield 91, 3) := by decide +kernel
theorem kK_meet_d36 : decode prog_2_method_4_code 36 = .ok (.invokevirtual 63, 3) := by decide +kernel
theorem kK_meet_d39 : decode prog_2_method_4_code 39 = .ok (.aload_n 0, 1) := by decide +kernel
theorem kK_meet_d40 : decode prog_2_method_4_code 40 = .ok (.getfield 12, 3) := by decide +kernel
theorem kK_meet_d43 : decode prog_2_method_4_code 43 = .ok (.aload_n 1, 1) := by decide +kernel
theorem kK_meet_d44 : decode prog_2_method_4_code 44 = .ok (.aload_n 0, 1) := by decide +kernel
theorem kK_meet_d45 : decode prog_2_method_4_code 45 = .ok (.getfield 23, 3) := by decide +kernel
theorem kK_meet_d48 : decode prog_2_method_4_code 48 = .ok (.getfield 85, 3) := by decide +kernel
theorem kK_meet_d51 : decode prog_2_method_4_code 51 = .ok (.invokevirtual 88, 3) := by decide +kernel
theorem kK_meet_d54 : decode prog_2_method_4_code 54 = .ok (.aload_n 0, 1) := by decide +kernel
theorem kK_meet_d55 : decode prog_2_method_4_code 55 = .ok (.getfield 48, 3) := by decide +kernel
theorem kK_meet_d58 : decode prog_2_method_4_code 58 = .ok (.aload_n 0, 1) := by decide +kernel
theorem kK_meet_d59 : decode prog_2_method_4_code 59 = .ok (.getfield 12, 3) := by decide +kernel
theorem kK_meet_d62 : decode prog_2_method_4_code 62 = .ok (.getfield 91, 3) := by decide +kernel
theorem kK_meet_d65 : decode prog_2_method_4_code 65 = .ok (.invokevirtual 63, 3) := by decide +kernel
theorem kK_meet_d68 : decode prog_2_method_4_code 68 = .ok (.return_, 1) := by decide +kernel
theorem kK_cross_d0 : decode prog_2_method_2_code 0 = .ok (.aload_n 0, 1) := by decide +kernel
theorem kK_cross_d1 : decode prog_2_method_2_code 1 = .ok (.getfield 32, 3) := by decide +kernel
theorem kK_cross_d4 : decode prog_2_method_2_code 4 = .ok (.aload_n 1, 1) := by decide +kernel
theorem kK_cross_d5 : decode prog_2_method_2_code 5 = .ok (.aload_n 2, 1) := by decide +kernel
theorem kK_cross_d6 : decode prog_2_method_2_code 6 = .ok (.invokevirtual 51, 3) := by decide +kernel
theorem kK_cross_d9 : decode prog_2_method_2_code 9 = .ok (.aload_n 0, 1) := by decide +kernel
theorem kK_cross_d10 : decode prog_2_method_2_code 10 = .ok (.getfield 36, 3) := by decide +kernel
theorem kK_cross_d13 : decode prog_2_method_2_code 13 = .ok (.aload_n 3, 1) := by decide +kernel
theorem kK_cross_d14 : decode prog_2_method_2_code 14 = .ok (.aload 4, 2) := by decide +kernel
theorem kK_cross_d16 : decode prog_2_method_2_code 16 = .ok (.invokevirtual 51, 3) := by decide +kernel
theorem kK_cross_d19 : decode prog_2_method_2_code 19 = .ok (.aload_n 0, 1) := by decide +kernel
theorem kK_cross_d20 : decode prog_2_method_2_code 20 = .ok (.getfield 39, 3) := by decide +kernel
theorem kK_cross_d23 : decode prog_2_method_2_code 23 = .ok (.aload_n 0, 1) := by decide +kernel
theorem kK_cross_d24 : decode prog_2_method_2_code 24 = .ok (.getfield 32, 3) := by decide +kernel
theorem kK_cross_d27 : decode prog_2_method_2_code 27 = .ok (.aload_n 0, 1) := by decide +kernel
theorem kK_cross_d28 : decode prog_2_method_2_code 28 = .ok (.getfield 36, 3) := by decide +kernel
theorem kK_cross_d31 : decode prog_2_method_2_code 31 = .ok (.iload 5, 2) := by decide +kernel
theorem kK_cross_d33 : decode prog_2_method_2_code 33 = .ok (.invokevirtual 55, 3) := by decide +kernel
theorem kK_cross_d36 : decode prog_2_method_2_code 36 = .ok (.return_, 1) := by decide +kernel
