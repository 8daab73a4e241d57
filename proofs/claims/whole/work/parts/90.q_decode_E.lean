/-! decode rows of ExactForms$Elimination -/
theorem kE_init_d0 : decode prog_4_method_1_code 0 = .ok (.aload_n 0, 1) := by decide +kernel
theorem kE_init_d1 : decode prog_4_method_1_code 1 = .ok (.invokespecial 3, 3) := by decide +kernel
theorem kE_init_d4 : decode prog_4_method_1_code 4 = .ok (.aload_n 0, 1) := by decide +kernel
theorem kE_init_d5 : decode prog_4_method_1_code 5 = .ok (.bipush 16, 2) := by decide +kernel
theorem kE_init_d7 : decode prog_4_method_1_code 7 = .ok (.anewarray 9, 3) := by decide +kernel
theorem kE_init_d10 : decode prog_4_method_1_code 10 = .ok (.putfield 11, 3) := by decide +kernel
theorem kE_init_d13 : decode prog_4_method_1_code 13 = .ok (.aload_n 0, 1) := by decide +kernel
theorem kE_init_d14 : decode prog_4_method_1_code 14 = .ok (.bipush 16, 2) := by decide +kernel
theorem kE_init_d16 : decode prog_4_method_1_code 16 = .ok (.newarray .int, 2) := by decide +kernel
theorem kE_init_d18 : decode prog_4_method_1_code 18 = .ok (.putfield 17, 3) := by decide +kernel
theorem kE_init_d21 : decode prog_4_method_1_code 21 = .ok (.aload_n 0, 1) := by decide +kernel
theorem kE_init_d22 : decode prog_4_method_1_code 22 = .ok (.bipush 32, 2) := by decide +kernel
theorem kE_init_d24 : decode prog_4_method_1_code 24 = .ok (.newarray .boolean, 2) := by decide +kernel
theorem kE_init_d26 : decode prog_4_method_1_code 26 = .ok (.putfield 21, 3) := by decide +kernel
theorem kE_init_d29 : decode prog_4_method_1_code 29 = .ok (.aload_n 0, 1) := by decide +kernel
theorem kE_init_d30 : decode prog_4_method_1_code 30 = .ok (.new 9, 3) := by decide +kernel
theorem kE_init_d33 : decode prog_4_method_1_code 33 = .ok (.dup, 1) := by decide +kernel
theorem kE_init_d34 : decode prog_4_method_1_code 34 = .ok (.bipush 64, 2) := by decide +kernel
theorem kE_init_d36 : decode prog_4_method_1_code 36 = .ok (.invokespecial 25, 3) := by decide +kernel
theorem kE_init_d39 : decode prog_4_method_1_code 39 = .ok (.putfield 28, 3) := by decide +kernel
theorem kE_init_d42 : decode prog_4_method_1_code 42 = .ok (.aload_n 0, 1) := by decide +kernel
theorem kE_init_d43 : decode prog_4_method_1_code 43 = .ok (.sipush 512, 3) := by decide +kernel
theorem kE_init_d46 : decode prog_4_method_1_code 46 = .ok (.anewarray 9, 3) := by decide +kernel
theorem kE_init_d49 : decode prog_4_method_1_code 49 = .ok (.putfield 32, 3) := by decide +kernel
theorem kE_init_d52 : decode prog_4_method_1_code 52 = .ok (.aload_n 0, 1) := by decide +kernel
theorem kE_init_d53 : decode prog_4_method_1_code 53 = .ok (.new 9, 3) := by decide +kernel
theorem kE_init_d56 : decode prog_4_method_1_code 56 = .ok (.dup, 1) := by decide +kernel
theorem kE_init_d57 : decode prog_4_method_1_code 57 = .ok (.bipush 125, 2) := by decide +kernel
theorem kE_init_d59 : decode prog_4_method_1_code 59 = .ok (.invokespecial 25, 3) := by decide +kernel
theorem kE_init_d62 : decode prog_4_method_1_code 62 = .ok (.putfield 35, 3) := by decide +kernel
theorem kE_init_d65 : decode prog_4_method_1_code 65 = .ok (.aload_n 0, 1) := by decide +kernel
theorem kE_init_d66 : decode prog_4_method_1_code 66 = .ok (.aload_n 1, 1) := by decide +kernel
theorem kE_init_d67 : decode prog_4_method_1_code 67 = .ok (.putfield 38, 3) := by decide +kernel
theorem kE_init_d70 : decode prog_4_method_1_code 70 = .ok (.iconst 0, 1) := by decide +kernel
theorem kE_init_d71 : decode prog_4_method_1_code 71 = .ok (.istore_n 2, 1) := by decide +kernel
theorem kE_init_d72 : decode prog_4_method_1_code 72 = .ok (.iload_n 2, 1) := by decide +kernel
theorem kE_init_d73 : decode prog_4_method_1_code 73 = .ok (.bipush 16, 2) := by decide +kernel
theorem kE_init_d75 : decode prog_4_method_1_code 75 = .ok (.if_icmp .ge 24, 3) := by decide +kernel
theorem kE_init_d78 : decode prog_4_method_1_code 78 = .ok (.aload_n 0, 1) := by decide +kernel
theorem kE_init_d79 : decode prog_4_method_1_code 79 = .ok (.getfield 11, 3) := by decide +kernel
theorem kE_init_d82 : decode prog_4_method_1_code 82 = .ok (.iload_n 2, 1) := by decide +kernel
theorem kE_init_d83 : decode prog_4_method_1_code 83 = .ok (.new 9, 3) := by decide +kernel
theorem kE_init_d86 : decode prog_4_method_1_code 86 = .ok (.dup, 1) := by decide +kernel
theorem kE_init_d87 : decode prog_4_method_1_code 87 = .ok (.bipush 125, 2) := by decide +kernel
theorem kE_init_d89 : decode prog_4_method_1_code 89 = .ok (.invokespecial 25, 3) := by decide +kernel
theorem kE_init_d92 : decode prog_4_method_1_code 92 = .ok (.aastore, 1) := by decide +kernel
theorem kE_init_d93 : decode prog_4_method_1_code 93 = .ok (.iinc 2 1, 3) := by decide +kernel
theorem kE_init_d96 : decode prog_4_method_1_code 96 = .ok (.goto (-24), 3) := by decide +kernel
theorem kE_init_d99 : decode prog_4_method_1_code 99 = .ok (.iconst 0, 1) := by decide +kernel
theorem kE_init_d100 : decode prog_4_method_1_code 100 = .ok (.istore_n 2, 1) := by decide +kernel
theorem kE_init_d101 : decode prog_4_method_1_code 101 = .ok (.iload_n 2, 1) := by decide +kernel
theorem kE_init_d102 : decode prog_4_method_1_code 102 = .ok (.sipush 512, 3) := by decide +kernel
theorem kE_init_d105 : decode prog_4_method_1_code 105 = .ok (.if_icmp .ge 24, 3) := by decide +kernel
theorem kE_init_d108 : decode prog_4_method_1_code 108 = .ok (.aload_n 0, 1) := by decide +kernel
theorem kE_init_d109 : decode prog_4_method_1_code 109 = .ok (.getfield 32, 3) := by decide +kernel
theorem kE_init_d112 : decode prog_4_method_1_code 112 = .ok (.iload_n 2, 1) := by decide +kernel
theorem kE_init_d113 : decode prog_4_method_1_code 113 = .ok (.new 9, 3) := by decide +kernel
theorem kE_init_d116 : decode prog_4_method_1_code 116 = .ok (.dup, 1) := by decide +kernel
theorem kE_init_d117 : decode prog_4_method_1_code 117 = .ok (.bipush 64, 2) := by decide +kernel
theorem kE_init_d119 : decode prog_4_method_1_code 119 = .ok (.invokespecial 25, 3) := by decide +kernel
theorem kE_init_d122 : decode prog_4_method_1_code 122 = .ok (.aastore, 1) := by decide +kernel
theorem kE_init_d123 : decode prog_4_method_1_code 123 = .ok (.iinc 2 1, 3) := by decide +kernel
theorem kE_init_d126 : decode prog_4_method_1_code 126 = .ok (.goto (-25), 3) := by decide +kernel
theorem kE_init_d129 : decode prog_4_method_1_code 129 = .ok (.return_, 1) := by decide +kernel
theorem kE_load_d0 : decode prog_4_method_3_code 0 = .ok (.aload_n 0, 1) := by decide +kernel
theorem kE_load_d1 : decode prog_4_method_3_code 1 = .ok (.aload_n 1, 1) := by decide +kernel
theorem kE_load_d2 : decode prog_4_method_3_code 2 = .ok (.getfield 42, 3) := by decide +kernel
theorem kE_load_d5 : decode prog_4_method_3_code 5 = .ok (.putfield 48, 3) := by decide +kernel
theorem kE_load_d8 : decode prog_4_method_3_code 8 = .ok (.aload_n 0, 1) := by decide +kernel
theorem kE_load_d9 : decode prog_4_method_3_code 9 = .ok (.aload_n 1, 1) := by decide +kernel
theorem kE_load_d10 : decode prog_4_method_3_code 10 = .ok (.getfield 49, 3) := by decide +kernel
theorem kE_load_d13 : decode prog_4_method_3_code 13 = .ok (.putfield 52, 3) := by decide +kernel
theorem kE_load_d16 : decode prog_4_method_3_code 16 = .ok (.iconst 0, 1) := by decide +kernel
theorem kE_load_d17 : decode prog_4_method_3_code 17 = .ok (.istore_n 3, 1) := by decide +kernel
theorem kE_load_d18 : decode prog_4_method_3_code 18 = .ok (.iload_n 3, 1) := by decide +kernel
theorem kE_load_d19 : decode prog_4_method_3_code 19 = .ok (.aload_n 0, 1) := by decide +kernel
theorem kE_load_d20 : decode prog_4_method_3_code 20 = .ok (.getfield 48, 3) := by decide +kernel
theorem kE_load_d23 : decode prog_4_method_3_code 23 = .ok (.if_icmp .ge 136, 3) := by decide +kernel
theorem kE_load_d26 : decode prog_4_method_3_code 26 = .ok (.aload_n 0, 1) := by decide +kernel
theorem kE_load_d27 : decode prog_4_method_3_code 27 = .ok (.getfield 38, 3) := by decide +kernel
theorem kE_load_d30 : decode prog_4_method_3_code 30 = .ok (.aload_n 1, 1) := by decide +kernel
theorem kE_load_d31 : decode prog_4_method_3_code 31 = .ok (.iload_n 3, 1) := by decide +kernel
theorem kE_load_d32 : decode prog_4_method_3_code 32 = .ok (.iload_n 3, 1) := by decide +kernel
theorem kE_load_d33 : decode prog_4_method_3_code 33 = .ok (.iconst 1, 1) := by decide +kernel
theorem kE_load_d34 : decode prog_4_method_3_code 34 = .ok (.iadd, 1) := by decide +kernel
theorem kE_load_d35 : decode prog_4_method_3_code 35 = .ok (.invokevirtual 55, 3) := by decide +kernel
theorem kE_load_d38 : decode prog_4_method_3_code 38 = .ok (.aload_n 0, 1) := by decide +kernel
theorem kE_load_d39 : decode prog_4_method_3_code 39 = .ok (.getfield 38, 3) := by decide +kernel
theorem kE_load_d42 : decode prog_4_method_3_code 42 = .ok (.getfield 61, 3) := by decide +kernel
theorem kE_load_d45 : decode prog_4_method_3_code 45 = .ok (.aload_n 1, 1) := by decide +kernel
theorem kE_load_d46 : decode prog_4_method_3_code 46 = .ok (.getfield 65, 3) := by decide +kernel
theorem kE_load_d49 : decode prog_4_method_3_code 49 = .ok (.aload_n 0, 1) := by decide +kernel
theorem kE_load_d50 : decode prog_4_method_3_code 50 = .ok (.getfield 38, 3) := by decide +kernel
theorem kE_load_d53 : decode prog_4_method_3_code 53 = .ok (.getfield 68, 3) := by decide +kernel
theorem kE_load_d56 : decode prog_4_method_3_code 56 = .ok (.invokevirtual 71, 3) := by decide +kernel
theorem kE_load_d59 : decode prog_4_method_3_code 59 = .ok (.aload_n 0, 1) := by decide +kernel
theorem kE_load_d60 : decode prog_4_method_3_code 60 = .ok (.getfield 11, 3) := by decide +kernel
theorem kE_load_d63 : decode prog_4_method_3_code 63 = .ok (.iload_n 3, 1) := by decide +kernel
theorem kE_load_d64 : decode prog_4_method_3_code 64 = .ok (.aaload, 1) := by decide +kernel
theorem kE_load_d65 : decode prog_4_method_3_code 65 = .ok (.aload_n 0, 1) := by decide +kernel
theorem kE_load_d66 : decode prog_4_method_3_code 66 = .ok (.getfield 38, 3) := by decide +kernel
theorem kE_load_d69 : decode prog_4_method_3_code 69 = .ok (.getfield 61, 3) := by decide +kernel
theorem kE_load_d72 : decode prog_4_method_3_code 72 = .ok (.getfield 77, 3) := by decide +kernel
theorem kE_load_d75 : decode prog_4_method_3_code 75 = .ok (.invokevirtual 80, 3) := by decide +kernel
theorem kE_load_d78 : decode prog_4_method_3_code 78 = .ok (.iconst 0, 1) := by decide +kernel
theorem kE_load_d79 : decode prog_4_method_3_code 79 = .ok (.istore 4, 2) := by decide +kernel
theorem kE_load_d81 : decode prog_4_method_3_code 81 = .ok (.iload 4, 2) := by decide +kernel
theorem kE_load_d83 : decode prog_4_method_3_code 83 = .ok (.aload_n 0, 1) := by decide +kernel
theorem kE_load_d84 : decode prog_4_method_3_code 84 = .ok (.getfield 52, 3) := by decide +kernel
theorem kE_load_d87 : decode prog_4_method_3_code 87 = .ok (.if_icmp .ge 66, 3) := by decide +kernel
theorem kE_load_d90 : decode prog_4_method_3_code 90 = .ok (.aload_n 0, 1) := by decide +kernel
theorem kE_load_d91 : decode prog_4_method_3_code 91 = .ok (.getfield 38, 3) := by decide +kernel
theorem kE_load_d94 : decode prog_4_method_3_code 94 = .ok (.getfield 61, 3) := by decide +kernel
theorem kE_load_d97 : decode prog_4_method_3_code 97 = .ok (.aload_n 1, 1) := by decide +kernel
theorem kE_load_d98 : decode prog_4_method_3_code 98 = .ok (.iload_n 3, 1) := by decide +kernel
theorem kE_load_d99 : decode prog_4_method_3_code 99 = .ok (.iload 4, 2) := by decide +kernel
theorem kE_load_d101 : decode prog_4_method_3_code 101 = .ok (.invokevirtual 84, 3) := by decide +kernel
theorem kE_load_d104 : decode prog_4_method_3_code 104 = .ok (.aload_n 0, 1) := by decide +kernel
theorem kE_load_d105 : decode prog_4_method_3_code 105 = .ok (.getfield 38, 3) := by decide +kernel
theorem kE_load_d108 : decode prog_4_method_3_code 108 = .ok (.getfield 68, 3) := by decide +kernel
theorem kE_load_d111 : decode prog_4_method_3_code 111 = .ok (.invokevirtual 71, 3) := by decide +kernel
theorem kE_load_d114 : decode prog_4_method_3_code 114 = .ok (.aload_n 0, 1) := by decide +kernel
theorem kE_load_d115 : decode prog_4_method_3_code 115 = .ok (.iload_n 3, 1) := by decide +kernel
theorem kE_load_d116 : decode prog_4_method_3_code 116 = .ok (.iload_n 2, 1) := by decide +kernel
theorem kE_load_d117 : decode prog_4_method_3_code 117 = .ok (.ifCond .eq 15, 3) := by decide +kernel
theorem kE_load_d120 : decode prog_4_method_3_code 120 = .ok (.aload_n 0, 1) := by decide +kernel
theorem kE_load_d121 : decode prog_4_method_3_code 121 = .ok (.getfield 52, 3) := by decide +kernel
theorem kE_load_d124 : decode prog_4_method_3_code 124 = .ok (.iconst 1, 1) := by decide +kernel
theorem kE_load_d125 : decode prog_4_method_3_code 125 = .ok (.isub, 1) := by decide +kernel
theorem kE_load_d126 : decode prog_4_method_3_code 126 = .ok (.iload 4, 2) := by decide +kernel
theorem kE_load_d128 : decode prog_4_method_3_code 128 = .ok (.isub, 1) := by decide +kernel
theorem kE_load_d129 : decode prog_4_method_3_code 129 = .ok (.goto 5, 3) := by decide +kernel
theorem kE_load_d132 : decode prog_4_method_3_code 132 = .ok (.iload 4, 2) := by decide +kernel
theorem kE_load_d134 : decode prog_4_method_3_code 134 = .ok (.aload_n 0, 1) := by decide +kernel
theorem kE_load_d135 : decode prog_4_method_3_code 135 = .ok (.getfield 38, 3) := by decide +kernel
theorem kE_load_d138 : decode prog_4_method_3_code 138 = .ok (.getfield 61, 3) := by decide +kernel
theorem kE_load_d141 : decode prog_4_method_3_code 141 = .ok (.getfield 77, 3) := by decide +kernel
theorem kE_load_d144 : decode prog_4_method_3_code 144 = .ok (.invokevirtual 88, 3) := by decide +kernel
theorem kE_load_d147 : decode prog_4_method_3_code 147 = .ok (.iinc 4 1, 3) := by decide +kernel
theorem kE_load_d150 : decode prog_4_method_3_code 150 = .ok (.goto (-69), 3) := by decide +kernel
theorem kE_load_d153 : decode prog_4_method_3_code 153 = .ok (.iinc 3 1, 3) := by decide +kernel
theorem kE_load_d156 : decode prog_4_method_3_code 156 = .ok (.goto (-138), 3) := by decide +kernel
theorem kE_load_d159 : decode prog_4_method_3_code 159 = .ok (.return_, 1) := by decide +kernel
theorem kE_put_d0 : decode prog_4_method_5_code 0 = .ok (.aload_n 3, 1) := by decide +kernel
theorem kE_put_d1 : decode prog_4_method_5_code 1 = .ok (.invokevirtual 108, 3) := by decide +kernel
theorem kE_put_d4 : decode prog_4_method_5_code 4 = .ok (.sipush 2000, 3) := by decide +kernel
theorem kE_put_d7 : decode prog_4_method_5_code 7 = .ok (.if_icmp .le 13, 3) := by decide +kernel
theorem kE_put_d10 : decode prog_4_method_5_code 10 = .ok (.new 112, 3) := by decide +kernel
theorem kE_put_d13 : decode prog_4_method_5_code 13 = .ok (.dup, 1) := by decide +kernel
theorem kE_put_d14 : decode prog_4_method_5_code 14 = .ok (.ldc 114, 2) := by decide +kernel
theorem kE_put_d16 : decode prog_4_method_5_code 16 = .ok (.invokespecial 116, 3) := by decide +kernel
theorem kE_put_d19 : decode prog_4_method_5_code 19 = .ok (.athrow, 1) := by decide +kernel
theorem kE_put_d20 : decode prog_4_method_5_code 20 = .ok (.aload_n 0, 1) := by decide +kernel
theorem kE_put_d21 : decode prog_4_method_5_code 21 = .ok (.iload_n 1, 1) := by decide +kernel
theorem kE_put_d22 : decode prog_4_method_5_code 22 = .ok (.iload_n 2, 1) := by decide +kernel
theorem kE_put_d23 : decode prog_4_method_5_code 23 = .ok (.invokevirtual 98, 3) := by decide +kernel
theorem kE_put_d26 : decode prog_4_method_5_code 26 = .ok (.aload_n 3, 1) := by decide +kernel
theorem kE_put_d27 : decode prog_4_method_5_code 27 = .ok (.invokevirtual 80, 3) := by decide +kernel
theorem kE_put_d30 : decode prog_4_method_5_code 30 = .ok (.return_, 1) := by decide +kernel
theorem kE_at_d0 : decode prog_4_method_2_code 0 = .ok (.aload_n 0, 1) := by decide +kernel
theorem kE_at_d1 : decode prog_4_method_2_code 1 = .ok (.getfield 32, 3) := by decide +kernel
theorem kE_at_d4 : decode prog_4_method_2_code 4 = .ok (.iload_n 1, 1) := by decide +kernel
theorem kE_at_d5 : decode prog_4_method_2_code 5 = .ok (.bipush 32, 2) := by decide +kernel
theorem kE_at_d7 : decode prog_4_method_2_code 7 = .ok (.imul, 1) := by decide +kernel
theorem kE_at_d8 : decode prog_4_method_2_code 8 = .ok (.iload_n 2, 1) := by decide +kernel
theorem kE_at_d9 : decode prog_4_method_2_code 9 = .ok (.iadd, 1) := by decide +kernel
theorem kE_at_d10 : decode prog_4_method_2_code 10 = .ok (.aaload, 1) := by decide +kernel
theorem kE_at_d11 : decode prog_4_method_2_code 11 = .ok (.areturn, 1) := by decide +kernel
theorem kE_weigh_d0 : decode prog_4_method_6_code 0 = .ok (.iconst 0, 1) := by decide +kernel
theorem kE_weigh_d1 : decode prog_4_method_6_code 1 = .ok (.istore_n 1, 1) := by decide +kernel
theorem kE_weigh_d2 : decode prog_4_method_6_code 2 = .ok (.iconst 0, 1) := by decide +kernel
theorem kE_weigh_d3 : decode prog_4_method_6_code 3 = .ok (.istore_n 2, 1) := by decide +kernel
theorem kE_weigh_d4 : decode prog_4_method_6_code 4 = .ok (.iload_n 2, 1) := by decide +kernel
theorem kE_weigh_d5 : decode prog_4_method_6_code 5 = .ok (.aload_n 0, 1) := by decide +kernel
theorem kE_weigh_d6 : decode prog_4_method_6_code 6 = .ok (.getfield 48, 3) := by decide +kernel
theorem kE_weigh_d9 : decode prog_4_method_6_code 9 = .ok (.if_icmp .ge 39, 3) := by decide +kernel
theorem kE_weigh_d12 : decode prog_4_method_6_code 12 = .ok (.iconst 0, 1) := by decide +kernel
theorem kE_weigh_d13 : decode prog_4_method_6_code 13 = .ok (.istore_n 3, 1) := by decide +kernel
theorem kE_weigh_d14 : decode prog_4_method_6_code 14 = .ok (.iload_n 3, 1) := by decide +kernel
theorem kE_weigh_d15 : decode prog_4_method_6_code 15 = .ok (.aload_n 0, 1) := by decide +kernel
theorem kE_weigh_d16 : decode prog_4_method_6_code 16 = .ok (.getfield 52, 3) := by decide +kernel
theorem kE_weigh_d19 : decode prog_4_method_6_code 19 = .ok (.if_icmp .ge 23, 3) := by decide +kernel
theorem kE_weigh_d22 : decode prog_4_method_6_code 22 = .ok (.iload_n 1, 1) := by decide +kernel
theorem kE_weigh_d23 : decode prog_4_method_6_code 23 = .ok (.aload_n 0, 1) := by decide +kernel
theorem kE_weigh_d24 : decode prog_4_method_6_code 24 = .ok (.iload_n 2, 1) := by decide +kernel
theorem kE_weigh_d25 : decode prog_4_method_6_code 25 = .ok (.iload_n 3, 1) := by decide +kernel
theorem kE_weigh_d26 : decode prog_4_method_6_code 26 = .ok (.invokevirtual 98, 3) := by decide +kernel
theorem kE_weigh_d29 : decode prog_4_method_6_code 29 = .ok (.invokevirtual 108, 3) := by decide +kernel
theorem kE_weigh_d32 : decode prog_4_method_6_code 32 = .ok (.invokestatic 119, 3) := by decide +kernel
theorem kE_weigh_d35 : decode prog_4_method_6_code 35 = .ok (.istore_n 1, 1) := by decide +kernel
theorem kE_weigh_d36 : decode prog_4_method_6_code 36 = .ok (.iinc 3 1, 3) := by decide +kernel
theorem kE_weigh_d39 : decode prog_4_method_6_code 39 = .ok (.goto (-25), 3) := by decide +kernel
theorem kE_weigh_d42 : decode prog_4_method_6_code 42 = .ok (.iinc 2 1, 3) := by decide +kernel
theorem kE_weigh_d45 : decode prog_4_method_6_code 45 = .ok (.goto (-41), 3) := by decide +kernel
theorem kE_weigh_d48 : decode prog_4_method_6_code 48 = .ok (.aload_n 0, 1) := by decide +kernel
theorem kE_weigh_d49 : decode prog_4_method_6_code 49 = .ok (.getfield 48, 3) := by decide +kernel
theorem kE_weigh_d52 : decode prog_4_method_6_code 52 = .ok (.aload_n 0, 1) := by decide +kernel
theorem kE_weigh_d53 : decode prog_4_method_6_code 53 = .ok (.getfield 52, 3) := by decide +kernel
theorem kE_weigh_d56 : decode prog_4_method_6_code 56 = .ok (.invokestatic 125, 3) := by decide +kernel
theorem kE_weigh_d59 : decode prog_4_method_6_code 59 = .ok (.istore_n 2, 1) := by decide +kernel
theorem kE_weigh_d60 : decode prog_4_method_6_code 60 = .ok (.iconst 0, 1) := by decide +kernel
theorem kE_weigh_d61 : decode prog_4_method_6_code 61 = .ok (.istore_n 3, 1) := by decide +kernel
theorem kE_weigh_d62 : decode prog_4_method_6_code 62 = .ok (.iload_n 3, 1) := by decide +kernel
theorem kE_weigh_d63 : decode prog_4_method_6_code 63 = .ok (.bipush 16, 2) := by decide +kernel
theorem kE_weigh_d65 : decode prog_4_method_6_code 65 = .ok (.if_icmp .ge 16, 3) := by decide +kernel
theorem kE_weigh_d68 : decode prog_4_method_6_code 68 = .ok (.iconst 1, 1) := by decide +kernel
theorem kE_weigh_d69 : decode prog_4_method_6_code 69 = .ok (.iload_n 3, 1) := by decide +kernel
theorem kE_weigh_d70 : decode prog_4_method_6_code 70 = .ok (.ishl, 1) := by decide +kernel
theorem kE_weigh_d71 : decode prog_4_method_6_code 71 = .ok (.iload_n 2, 1) := by decide +kernel
theorem kE_weigh_d72 : decode prog_4_method_6_code 72 = .ok (.if_icmp .ge 9, 3) := by decide +kernel
theorem kE_weigh_d75 : decode prog_4_method_6_code 75 = .ok (.iinc 3 1, 3) := by decide +kernel
theorem kE_weigh_d78 : decode prog_4_method_6_code 78 = .ok (.goto (-16), 3) := by decide +kernel
theorem kE_weigh_d81 : decode prog_4_method_6_code 81 = .ok (.iload_n 2, 1) := by decide +kernel
theorem kE_weigh_d82 : decode prog_4_method_6_code 82 = .ok (.iload_n 1, 1) := by decide +kernel
theorem kE_weigh_d83 : decode prog_4_method_6_code 83 = .ok (.iload_n 3, 1) := by decide +kernel
theorem kE_weigh_d84 : decode prog_4_method_6_code 84 = .ok (.iadd, 1) := by decide +kernel
theorem kE_weigh_d85 : decode prog_4_method_6_code 85 = .ok (.imul, 1) := by decide +kernel
theorem kE_weigh_d86 : decode prog_4_method_6_code 86 = .ok (.sipush 2000, 3) := by decide +kernel
theorem kE_weigh_d89 : decode prog_4_method_6_code 89 = .ok (.if_icmp .le 13, 3) := by decide +kernel
theorem kE_weigh_d92 : decode prog_4_method_6_code 92 = .ok (.new 112, 3) := by decide +kernel
theorem kE_weigh_d95 : decode prog_4_method_6_code 95 = .ok (.dup, 1) := by decide +kernel
theorem kE_weigh_d96 : decode prog_4_method_6_code 96 = .ok (.ldc 114, 2) := by decide +kernel
theorem kE_weigh_d98 : decode prog_4_method_6_code 98 = .ok (.invokespecial 116, 3) := by decide +kernel
theorem kE_weigh_d101 : decode prog_4_method_6_code 101 = .ok (.athrow, 1) := by decide +kernel
theorem kE_weigh_d102 : decode prog_4_method_6_code 102 = .ok (.return_, 1) := by decide +kernel
theorem kE_eliminate_d0 : decode prog_4_method_7_code 0 = .ok (.aload_n 0, 1) := by decide +kernel
theorem kE_eliminate_d1 : decode prog_4_method_7_code 1 = .ok (.iconst 0, 1) := by decide +kernel
theorem kE_eliminate_d2 : decode prog_4_method_7_code 2 = .ok (.putfield 128, 3) := by decide +kernel
theorem kE_eliminate_d5 : decode prog_4_method_7_code 5 = .ok (.aload_n 0, 1) := by decide +kernel
theorem kE_eliminate_d6 : decode prog_4_method_7_code 6 = .ok (.iconst 0, 1) := by decide +kernel
theorem kE_eliminate_d7 : decode prog_4_method_7_code 7 = .ok (.putfield 131, 3) := by decide +kernel
theorem kE_eliminate_d10 : decode prog_4_method_7_code 10 = .ok (.aload_n 0, 1) := by decide +kernel
theorem kE_eliminate_d11 : decode prog_4_method_7_code 11 = .ok (.getfield 28, 3) := by decide +kernel
theorem kE_eliminate_d14 : decode prog_4_method_7_code 14 = .ok (.invokevirtual 135, 3) := by decide +kernel
theorem kE_eliminate_d17 : decode prog_4_method_7_code 17 = .ok (.iconst 0, 1) := by decide +kernel
theorem kE_eliminate_d18 : decode prog_4_method_7_code 18 = .ok (.istore_n 2, 1) := by decide +kernel
theorem kE_eliminate_d19 : decode prog_4_method_7_code 19 = .ok (.iload_n 2, 1) := by decide +kernel
theorem kE_eliminate_d20 : decode prog_4_method_7_code 20 = .ok (.aload_n 0, 1) := by decide +kernel
theorem kE_eliminate_d21 : decode prog_4_method_7_code 21 = .ok (.getfield 52, 3) := by decide +kernel
theorem kE_eliminate_d24 : decode prog_4_method_7_code 24 = .ok (.if_icmp .ge 110, 3) := by decide +kernel
theorem kE_eliminate_d27 : decode prog_4_method_7_code 27 = .ok (.aload_n 0, 1) := by decide +kernel
theorem kE_eliminate_d28 : decode prog_4_method_7_code 28 = .ok (.getfield 21, 3) := by decide +kernel
theorem kE_eliminate_d31 : decode prog_4_method_7_code 31 = .ok (.iload_n 2, 1) := by decide +kernel
theorem kE_eliminate_d32 : decode prog_4_method_7_code 32 = .ok (.iconst 0, 1) := by decide +kernel
theorem kE_eliminate_d33 : decode prog_4_method_7_code 33 = .ok (.bastore, 1) := by decide +kernel
theorem kE_eliminate_d34 : decode prog_4_method_7_code 34 = .ok (.iload_n 2, 1) := by decide +kernel
theorem kE_eliminate_d35 : decode prog_4_method_7_code 35 = .ok (.iload_n 1, 1) := by decide +kernel
theorem kE_eliminate_d36 : decode prog_4_method_7_code 36 = .ok (.if_icmp .ge 92, 3) := by decide +kernel
theorem kE_eliminate_d39 : decode prog_4_method_7_code 39 = .ok (.aload_n 0, 1) := by decide +kernel
theorem kE_eliminate_d40 : decode prog_4_method_7_code 40 = .ok (.getfield 128, 3) := by decide +kernel
theorem kE_eliminate_d43 : decode prog_4_method_7_code 43 = .ok (.aload_n 0, 1) := by decide +kernel
theorem kE_eliminate_d44 : decode prog_4_method_7_code 44 = .ok (.getfield 48, 3) := by decide +kernel
theorem kE_eliminate_d47 : decode prog_4_method_7_code 47 = .ok (.if_icmp .ge 81, 3) := by decide +kernel
theorem kE_eliminate_d50 : decode prog_4_method_7_code 50 = .ok (.aload_n 0, 1) := by decide +kernel
theorem kE_eliminate_d51 : decode prog_4_method_7_code 51 = .ok (.iload_n 2, 1) := by decide +kernel
theorem kE_eliminate_d52 : decode prog_4_method_7_code 52 = .ok (.invokevirtual 138, 3) := by decide +kernel
theorem kE_eliminate_d55 : decode prog_4_method_7_code 55 = .ok (.ifCond .eq 73, 3) := by decide +kernel
theorem kE_eliminate_d58 : decode prog_4_method_7_code 58 = .ok (.aload_n 0, 1) := by decide +kernel
theorem kE_eliminate_d59 : decode prog_4_method_7_code 59 = .ok (.getfield 128, 3) := by decide +kernel
theorem kE_eliminate_d62 : decode prog_4_method_7_code 62 = .ok (.iconst 1, 1) := by decide +kernel
theorem kE_eliminate_d63 : decode prog_4_method_7_code 63 = .ok (.iadd, 1) := by decide +kernel
theorem kE_eliminate_d64 : decode prog_4_method_7_code 64 = .ok (.istore_n 3, 1) := by decide +kernel
theorem kE_eliminate_d65 : decode prog_4_method_7_code 65 = .ok (.iload_n 3, 1) := by decide +kernel
theorem kE_eliminate_d66 : decode prog_4_method_7_code 66 = .ok (.aload_n 0, 1) := by decide +kernel
theorem kE_eliminate_d67 : decode prog_4_method_7_code 67 = .ok (.getfield 48, 3) := by decide +kernel
theorem kE_eliminate_d70 : decode prog_4_method_7_code 70 = .ok (.if_icmp .ge 15, 3) := by decide +kernel
theorem kE_eliminate_d73 : decode prog_4_method_7_code 73 = .ok (.aload_n 0, 1) := by decide +kernel
theorem kE_eliminate_d74 : decode prog_4_method_7_code 74 = .ok (.iload_n 3, 1) := by decide +kernel
theorem kE_eliminate_d75 : decode prog_4_method_7_code 75 = .ok (.iload_n 2, 1) := by decide +kernel
theorem kE_eliminate_d76 : decode prog_4_method_7_code 76 = .ok (.invokevirtual 142, 3) := by decide +kernel
theorem kE_eliminate_d79 : decode prog_4_method_7_code 79 = .ok (.iinc 3 1, 3) := by decide +kernel
theorem kE_eliminate_d82 : decode prog_4_method_7_code 82 = .ok (.goto (-17), 3) := by decide +kernel
theorem kE_eliminate_d85 : decode prog_4_method_7_code 85 = .ok (.aload_n 0, 1) := by decide +kernel
theorem kE_eliminate_d86 : decode prog_4_method_7_code 86 = .ok (.getfield 28, 3) := by decide +kernel
theorem kE_eliminate_d89 : decode prog_4_method_7_code 89 = .ok (.aload_n 0, 1) := by decide +kernel
theorem kE_eliminate_d90 : decode prog_4_method_7_code 90 = .ok (.aload_n 0, 1) := by decide +kernel
theorem kE_eliminate_d91 : decode prog_4_method_7_code 91 = .ok (.getfield 128, 3) := by decide +kernel
theorem kE_eliminate_d94 : decode prog_4_method_7_code 94 = .ok (.iload_n 2, 1) := by decide +kernel
theorem kE_eliminate_d95 : decode prog_4_method_7_code 95 = .ok (.invokevirtual 98, 3) := by decide +kernel
theorem kE_eliminate_d98 : decode prog_4_method_7_code 98 = .ok (.invokevirtual 80, 3) := by decide +kernel
theorem kE_eliminate_d101 : decode prog_4_method_7_code 101 = .ok (.aload_n 0, 1) := by decide +kernel
theorem kE_eliminate_d102 : decode prog_4_method_7_code 102 = .ok (.getfield 17, 3) := by decide +kernel
theorem kE_eliminate_d105 : decode prog_4_method_7_code 105 = .ok (.aload_n 0, 1) := by decide +kernel
theorem kE_eliminate_d106 : decode prog_4_method_7_code 106 = .ok (.getfield 128, 3) := by decide +kernel
theorem kE_eliminate_d109 : decode prog_4_method_7_code 109 = .ok (.iload_n 2, 1) := by decide +kernel
theorem kE_eliminate_d110 : decode prog_4_method_7_code 110 = .ok (.iastore, 1) := by decide +kernel
theorem kE_eliminate_d111 : decode prog_4_method_7_code 111 = .ok (.aload_n 0, 1) := by decide +kernel
theorem kE_eliminate_d112 : decode prog_4_method_7_code 112 = .ok (.getfield 21, 3) := by decide +kernel
theorem kE_eliminate_d115 : decode prog_4_method_7_code 115 = .ok (.iload_n 2, 1) := by decide +kernel
theorem kE_eliminate_d116 : decode prog_4_method_7_code 116 = .ok (.iconst 1, 1) := by decide +kernel
theorem kE_eliminate_d117 : decode prog_4_method_7_code 117 = .ok (.bastore, 1) := by decide +kernel
theorem kE_eliminate_d118 : decode prog_4_method_7_code 118 = .ok (.aload_n 0, 1) := by decide +kernel
theorem kE_eliminate_d119 : decode prog_4_method_7_code 119 = .ok (.dup, 1) := by decide +kernel
theorem kE_eliminate_d120 : decode prog_4_method_7_code 120 = .ok (.getfield 128, 3) := by decide +kernel
theorem kE_eliminate_d123 : decode prog_4_method_7_code 123 = .ok (.iconst 1, 1) := by decide +kernel
theorem kE_eliminate_d124 : decode prog_4_method_7_code 124 = .ok (.iadd, 1) := by decide +kernel
theorem kE_eliminate_d125 : decode prog_4_method_7_code 125 = .ok (.putfield 128, 3) := by decide +kernel
theorem kE_eliminate_d128 : decode prog_4_method_7_code 128 = .ok (.iinc 2 1, 3) := by decide +kernel
theorem kE_eliminate_d131 : decode prog_4_method_7_code 131 = .ok (.goto (-112), 3) := by decide +kernel
theorem kE_eliminate_d134 : decode prog_4_method_7_code 134 = .ok (.return_, 1) := by decide +kernel
theorem kE_findPivot_d0 : decode prog_4_method_8_code 0 = .ok (.aload_n 0, 1) := by decide +kernel
theorem kE_findPivot_d1 : decode prog_4_method_8_code 1 = .ok (.getfield 128, 3) := by decide +kernel
theorem kE_findPivot_d4 : decode prog_4_method_8_code 4 = .ok (.istore_n 2, 1) := by decide +kernel
theorem kE_findPivot_d5 : decode prog_4_method_8_code 5 = .ok (.iload_n 2, 1) := by decide +kernel
theorem kE_findPivot_d6 : decode prog_4_method_8_code 6 = .ok (.aload_n 0, 1) := by decide +kernel
theorem kE_findPivot_d7 : decode prog_4_method_8_code 7 = .ok (.getfield 48, 3) := by decide +kernel
theorem kE_findPivot_d10 : decode prog_4_method_8_code 10 = .ok (.if_icmp .ge 40, 3) := by decide +kernel
theorem kE_findPivot_d13 : decode prog_4_method_8_code 13 = .ok (.aload_n 0, 1) := by decide +kernel
theorem kE_findPivot_d14 : decode prog_4_method_8_code 14 = .ok (.iload_n 2, 1) := by decide +kernel
theorem kE_findPivot_d15 : decode prog_4_method_8_code 15 = .ok (.iload_n 1, 1) := by decide +kernel
theorem kE_findPivot_d16 : decode prog_4_method_8_code 16 = .ok (.invokevirtual 98, 3) := by decide +kernel
theorem kE_findPivot_d19 : decode prog_4_method_8_code 19 = .ok (.getfield 146, 3) := by decide +kernel
theorem kE_findPivot_d22 : decode prog_4_method_8_code 22 = .ok (.ifCond .le 22, 3) := by decide +kernel
theorem kE_findPivot_d25 : decode prog_4_method_8_code 25 = .ok (.iload_n 2, 1) := by decide +kernel
theorem kE_findPivot_d26 : decode prog_4_method_8_code 26 = .ok (.aload_n 0, 1) := by decide +kernel
theorem kE_findPivot_d27 : decode prog_4_method_8_code 27 = .ok (.getfield 128, 3) := by decide +kernel
theorem kE_findPivot_d30 : decode prog_4_method_8_code 30 = .ok (.if_icmp .le 12, 3) := by decide +kernel
theorem kE_findPivot_d33 : decode prog_4_method_8_code 33 = .ok (.aload_n 0, 1) := by decide +kernel
theorem kE_findPivot_d34 : decode prog_4_method_8_code 34 = .ok (.iload_n 2, 1) := by decide +kernel
theorem kE_findPivot_d35 : decode prog_4_method_8_code 35 = .ok (.aload_n 0, 1) := by decide +kernel
theorem kE_findPivot_d36 : decode prog_4_method_8_code 36 = .ok (.getfield 128, 3) := by decide +kernel
theorem kE_findPivot_d39 : decode prog_4_method_8_code 39 = .ok (.invokevirtual 149, 3) := by decide +kernel
theorem kE_findPivot_d42 : decode prog_4_method_8_code 42 = .ok (.iconst 1, 1) := by decide +kernel
theorem kE_findPivot_d43 : decode prog_4_method_8_code 43 = .ok (.ireturn, 1) := by decide +kernel
theorem kE_findPivot_d44 : decode prog_4_method_8_code 44 = .ok (.iinc 2 1, 3) := by decide +kernel
theorem kE_findPivot_d47 : decode prog_4_method_8_code 47 = .ok (.goto (-42), 3) := by decide +kernel
theorem kE_findPivot_d50 : decode prog_4_method_8_code 50 = .ok (.iconst 0, 1) := by decide +kernel
theorem kE_findPivot_d51 : decode prog_4_method_8_code 51 = .ok (.ireturn, 1) := by decide +kernel
theorem kE_swapRows_d0 : decode prog_4_method_9_code 0 = .ok (.iconst 0, 1) := by decide +kernel
theorem kE_swapRows_d1 : decode prog_4_method_9_code 1 = .ok (.istore_n 3, 1) := by decide +kernel
theorem kE_swapRows_d2 : decode prog_4_method_9_code 2 = .ok (.iload_n 3, 1) := by decide +kernel
theorem kE_swapRows_d3 : decode prog_4_method_9_code 3 = .ok (.aload_n 0, 1) := by decide +kernel
theorem kE_swapRows_d4 : decode prog_4_method_9_code 4 = .ok (.getfield 52, 3) := by decide +kernel
theorem kE_swapRows_d7 : decode prog_4_method_9_code 7 = .ok (.if_icmp .ge 47, 3) := by decide +kernel
theorem kE_swapRows_d10 : decode prog_4_method_9_code 10 = .ok (.aload_n 0, 1) := by decide +kernel
theorem kE_swapRows_d11 : decode prog_4_method_9_code 11 = .ok (.iload_n 1, 1) := by decide +kernel
theorem kE_swapRows_d12 : decode prog_4_method_9_code 12 = .ok (.iload_n 3, 1) := by decide +kernel
theorem kE_swapRows_d13 : decode prog_4_method_9_code 13 = .ok (.invokevirtual 98, 3) := by decide +kernel
theorem kE_swapRows_d16 : decode prog_4_method_9_code 16 = .ok (.astore 4, 2) := by decide +kernel
theorem kE_swapRows_d18 : decode prog_4_method_9_code 18 = .ok (.aload_n 0, 1) := by decide +kernel
theorem kE_swapRows_d19 : decode prog_4_method_9_code 19 = .ok (.getfield 32, 3) := by decide +kernel
theorem kE_swapRows_d22 : decode prog_4_method_9_code 22 = .ok (.iload_n 1, 1) := by decide +kernel
theorem kE_swapRows_d23 : decode prog_4_method_9_code 23 = .ok (.bipush 32, 2) := by decide +kernel
theorem kE_swapRows_d25 : decode prog_4_method_9_code 25 = .ok (.imul, 1) := by decide +kernel
theorem kE_swapRows_d26 : decode prog_4_method_9_code 26 = .ok (.iload_n 3, 1) := by decide +kernel
theorem kE_swapRows_d27 : decode prog_4_method_9_code 27 = .ok (.iadd, 1) := by decide +kernel
theorem kE_swapRows_d28 : decode prog_4_method_9_code 28 = .ok (.aload_n 0, 1) := by decide +kernel
theorem kE_swapRows_d29 : decode prog_4_method_9_code 29 = .ok (.iload_n 2, 1) := by decide +kernel
theorem kE_swapRows_d30 : decode prog_4_method_9_code 30 = .ok (.iload_n 3, 1) := by decide +kernel
theorem kE_swapRows_d31 : decode prog_4_method_9_code 31 = .ok (.invokevirtual 98, 3) := by decide +kernel
theorem kE_swapRows_d34 : decode prog_4_method_9_code 34 = .ok (.aastore, 1) := by decide +kernel
theorem kE_swapRows_d35 : decode prog_4_method_9_code 35 = .ok (.aload_n 0, 1) := by decide +kernel
theorem kE_swapRows_d36 : decode prog_4_method_9_code 36 = .ok (.getfield 32, 3) := by decide +kernel
theorem kE_swapRows_d39 : decode prog_4_method_9_code 39 = .ok (.iload_n 2, 1) := by decide +kernel
theorem kE_swapRows_d40 : decode prog_4_method_9_code 40 = .ok (.bipush 32, 2) := by decide +kernel
theorem kE_swapRows_d42 : decode prog_4_method_9_code 42 = .ok (.imul, 1) := by decide +kernel
theorem kE_swapRows_d43 : decode prog_4_method_9_code 43 = .ok (.iload_n 3, 1) := by decide +kernel
theorem kE_swapRows_d44 : decode prog_4_method_9_code 44 = .ok (.iadd, 1) := by decide +kernel
theorem kE_swapRows_d45 : decode prog_4_method_9_code 45 = .ok (.aload 4, 2) := by decide +kernel
theorem kE_swapRows_d47 : decode prog_4_method_9_code 47 = .ok (.aastore, 1) := by decide +kernel
theorem kE_swapRows_d48 : decode prog_4_method_9_code 48 = .ok (.iinc 3 1, 3) := by decide +kernel
theorem kE_swapRows_d51 : decode prog_4_method_9_code 51 = .ok (.goto (-49), 3) := by decide +kernel
theorem kE_swapRows_d54 : decode prog_4_method_9_code 54 = .ok (.aload_n 0, 1) := by decide +kernel
theorem kE_swapRows_d55 : decode prog_4_method_9_code 55 = .ok (.aload_n 0, 1) := by decide +kernel
theorem kE_swapRows_d56 : decode prog_4_method_9_code 56 = .ok (.getfield 131, 3) := by decide +kernel
theorem kE_swapRows_d59 : decode prog_4_method_9_code 59 = .ok (.ifCond .ne 7, 3) := by decide +kernel
theorem kE_swapRows_d62 : decode prog_4_method_9_code 62 = .ok (.iconst 1, 1) := by decide +kernel
theorem kE_swapRows_d63 : decode prog_4_method_9_code 63 = .ok (.goto 4, 3) := by decide +kernel
theorem kE_swapRows_d66 : decode prog_4_method_9_code 66 = .ok (.iconst 0, 1) := by decide +kernel
theorem kE_swapRows_d67 : decode prog_4_method_9_code 67 = .ok (.putfield 131, 3) := by decide +kernel
theorem kE_swapRows_d70 : decode prog_4_method_9_code 70 = .ok (.return_, 1) := by decide +kernel
theorem kE_clearRow_d0 : decode prog_4_method_10_code 0 = .ok (.iload_n 2, 1) := by decide +kernel
theorem kE_clearRow_d1 : decode prog_4_method_10_code 1 = .ok (.iconst 1, 1) := by decide +kernel
theorem kE_clearRow_d2 : decode prog_4_method_10_code 2 = .ok (.iadd, 1) := by decide +kernel
theorem kE_clearRow_d3 : decode prog_4_method_10_code 3 = .ok (.istore_n 3, 1) := by decide +kernel
theorem kE_clearRow_d4 : decode prog_4_method_10_code 4 = .ok (.iload_n 3, 1) := by decide +kernel
theorem kE_clearRow_d5 : decode prog_4_method_10_code 5 = .ok (.aload_n 0, 1) := by decide +kernel
theorem kE_clearRow_d6 : decode prog_4_method_10_code 6 = .ok (.getfield 52, 3) := by decide +kernel
theorem kE_clearRow_d9 : decode prog_4_method_10_code 9 = .ok (.if_icmp .ge 114, 3) := by decide +kernel
theorem kE_clearRow_d12 : decode prog_4_method_10_code 12 = .ok (.aload_n 0, 1) := by decide +kernel
theorem kE_clearRow_d13 : decode prog_4_method_10_code 13 = .ok (.iload_n 1, 1) := by decide +kernel
theorem kE_clearRow_d14 : decode prog_4_method_10_code 14 = .ok (.iload_n 3, 1) := by decide +kernel
theorem kE_clearRow_d15 : decode prog_4_method_10_code 15 = .ok (.invokevirtual 98, 3) := by decide +kernel
theorem kE_clearRow_d18 : decode prog_4_method_10_code 18 = .ok (.getfield 146, 3) := by decide +kernel
theorem kE_clearRow_d21 : decode prog_4_method_10_code 21 = .ok (.ifCond .gt 18, 3) := by decide +kernel
theorem kE_clearRow_d24 : decode prog_4_method_10_code 24 = .ok (.aload_n 0, 1) := by decide +kernel
theorem kE_clearRow_d25 : decode prog_4_method_10_code 25 = .ok (.aload_n 0, 1) := by decide +kernel
theorem kE_clearRow_d26 : decode prog_4_method_10_code 26 = .ok (.getfield 128, 3) := by decide +kernel
theorem kE_clearRow_d29 : decode prog_4_method_10_code 29 = .ok (.iload_n 3, 1) := by decide +kernel
theorem kE_clearRow_d30 : decode prog_4_method_10_code 30 = .ok (.invokevirtual 98, 3) := by decide +kernel
theorem kE_clearRow_d33 : decode prog_4_method_10_code 33 = .ok (.getfield 146, 3) := by decide +kernel
theorem kE_clearRow_d36 : decode prog_4_method_10_code 36 = .ok (.ifCond .le 81, 3) := by decide +kernel
theorem kE_clearRow_d39 : decode prog_4_method_10_code 39 = .ok (.aload_n 0, 1) := by decide +kernel
theorem kE_clearRow_d40 : decode prog_4_method_10_code 40 = .ok (.getfield 38, 3) := by decide +kernel
theorem kE_clearRow_d43 : decode prog_4_method_10_code 43 = .ok (.aload_n 0, 1) := by decide +kernel
theorem kE_clearRow_d44 : decode prog_4_method_10_code 44 = .ok (.aload_n 0, 1) := by decide +kernel
theorem kE_clearRow_d45 : decode prog_4_method_10_code 45 = .ok (.getfield 128, 3) := by decide +kernel
theorem kE_clearRow_d48 : decode prog_4_method_10_code 48 = .ok (.iload_n 2, 1) := by decide +kernel
theorem kE_clearRow_d49 : decode prog_4_method_10_code 49 = .ok (.invokevirtual 98, 3) := by decide +kernel
theorem kE_clearRow_d52 : decode prog_4_method_10_code 52 = .ok (.aload_n 0, 1) := by decide +kernel
theorem kE_clearRow_d53 : decode prog_4_method_10_code 53 = .ok (.iload_n 1, 1) := by decide +kernel
theorem kE_clearRow_d54 : decode prog_4_method_10_code 54 = .ok (.iload_n 3, 1) := by decide +kernel
theorem kE_clearRow_d55 : decode prog_4_method_10_code 55 = .ok (.invokevirtual 98, 3) := by decide +kernel
theorem kE_clearRow_d58 : decode prog_4_method_10_code 58 = .ok (.aload_n 0, 1) := by decide +kernel
theorem kE_clearRow_d59 : decode prog_4_method_10_code 59 = .ok (.iload_n 1, 1) := by decide +kernel
theorem kE_clearRow_d60 : decode prog_4_method_10_code 60 = .ok (.iload_n 2, 1) := by decide +kernel
theorem kE_clearRow_d61 : decode prog_4_method_10_code 61 = .ok (.invokevirtual 98, 3) := by decide +kernel
theorem kE_clearRow_d64 : decode prog_4_method_10_code 64 = .ok (.aload_n 0, 1) := by decide +kernel
theorem kE_clearRow_d65 : decode prog_4_method_10_code 65 = .ok (.aload_n 0, 1) := by decide +kernel
theorem kE_clearRow_d66 : decode prog_4_method_10_code 66 = .ok (.getfield 128, 3) := by decide +kernel
theorem kE_clearRow_d69 : decode prog_4_method_10_code 69 = .ok (.iload_n 3, 1) := by decide +kernel
theorem kE_clearRow_d70 : decode prog_4_method_10_code 70 = .ok (.invokevirtual 98, 3) := by decide +kernel
theorem kE_clearRow_d73 : decode prog_4_method_10_code 73 = .ok (.iconst 1, 1) := by decide +kernel
theorem kE_clearRow_d74 : decode prog_4_method_10_code 74 = .ok (.invokevirtual 152, 3) := by decide +kernel
theorem kE_clearRow_d77 : decode prog_4_method_10_code 77 = .ok (.aload_n 0, 1) := by decide +kernel
theorem kE_clearRow_d78 : decode prog_4_method_10_code 78 = .ok (.getfield 38, 3) := by decide +kernel
theorem kE_clearRow_d81 : decode prog_4_method_10_code 81 = .ok (.getfield 61, 3) := by decide +kernel
theorem kE_clearRow_d84 : decode prog_4_method_10_code 84 = .ok (.aload_n 0, 1) := by decide +kernel
theorem kE_clearRow_d85 : decode prog_4_method_10_code 85 = .ok (.getfield 38, 3) := by decide +kernel
theorem kE_clearRow_d88 : decode prog_4_method_10_code 88 = .ok (.getfield 156, 3) := by decide +kernel
theorem kE_clearRow_d91 : decode prog_4_method_10_code 91 = .ok (.aload_n 0, 1) := by decide +kernel
theorem kE_clearRow_d92 : decode prog_4_method_10_code 92 = .ok (.getfield 28, 3) := by decide +kernel
theorem kE_clearRow_d95 : decode prog_4_method_10_code 95 = .ok (.invokevirtual 71, 3) := by decide +kernel
theorem kE_clearRow_d98 : decode prog_4_method_10_code 98 = .ok (.aload_n 0, 1) := by decide +kernel
theorem kE_clearRow_d99 : decode prog_4_method_10_code 99 = .ok (.iload_n 1, 1) := by decide +kernel
theorem kE_clearRow_d100 : decode prog_4_method_10_code 100 = .ok (.iload_n 3, 1) := by decide +kernel
theorem kE_clearRow_d101 : decode prog_4_method_10_code 101 = .ok (.invokevirtual 98, 3) := by decide +kernel
theorem kE_clearRow_d104 : decode prog_4_method_10_code 104 = .ok (.aload_n 0, 1) := by decide +kernel
theorem kE_clearRow_d105 : decode prog_4_method_10_code 105 = .ok (.getfield 38, 3) := by decide +kernel
theorem kE_clearRow_d108 : decode prog_4_method_10_code 108 = .ok (.getfield 61, 3) := by decide +kernel
theorem kE_clearRow_d111 : decode prog_4_method_10_code 111 = .ok (.getfield 77, 3) := by decide +kernel
theorem kE_clearRow_d114 : decode prog_4_method_10_code 114 = .ok (.invokevirtual 80, 3) := by decide +kernel
theorem kE_clearRow_d117 : decode prog_4_method_10_code 117 = .ok (.iinc 3 1, 3) := by decide +kernel
theorem kE_clearRow_d120 : decode prog_4_method_10_code 120 = .ok (.goto (-116), 3) := by decide +kernel
theorem kE_clearRow_d123 : decode prog_4_method_10_code 123 = .ok (.aload_n 0, 1) := by decide +kernel
theorem kE_clearRow_d124 : decode prog_4_method_10_code 124 = .ok (.iload_n 1, 1) := by decide +kernel
theorem kE_clearRow_d125 : decode prog_4_method_10_code 125 = .ok (.iload_n 2, 1) := by decide +kernel
theorem kE_clearRow_d126 : decode prog_4_method_10_code 126 = .ok (.invokevirtual 98, 3) := by decide +kernel
theorem kE_clearRow_d129 : decode prog_4_method_10_code 129 = .ok (.invokevirtual 159, 3) := by decide +kernel
theorem kE_clearRow_d132 : decode prog_4_method_10_code 132 = .ok (.return_, 1) := by decide +kernel
theorem kE_substitute_d0 : decode prog_4_method_12_code 0 = .ok (.iload_n 1, 1) := by decide +kernel
theorem kE_substitute_d1 : decode prog_4_method_12_code 1 = .ok (.istore_n 2, 1) := by decide +kernel
theorem kE_substitute_d2 : decode prog_4_method_12_code 2 = .ok (.iload_n 2, 1) := by decide +kernel
theorem kE_substitute_d3 : decode prog_4_method_12_code 3 = .ok (.aload_n 0, 1) := by decide +kernel
theorem kE_substitute_d4 : decode prog_4_method_12_code 4 = .ok (.getfield 52, 3) := by decide +kernel
theorem kE_substitute_d7 : decode prog_4_method_12_code 7 = .ok (.if_icmp .ge 176, 3) := by decide +kernel
theorem kE_substitute_d10 : decode prog_4_method_12_code 10 = .ok (.aload_n 0, 1) := by decide +kernel
theorem kE_substitute_d11 : decode prog_4_method_12_code 11 = .ok (.getfield 128, 3) := by decide +kernel
theorem kE_substitute_d14 : decode prog_4_method_12_code 14 = .ok (.iconst 2, 1) := by decide +kernel
theorem kE_substitute_d15 : decode prog_4_method_12_code 15 = .ok (.isub, 1) := by decide +kernel
theorem kE_substitute_d16 : decode prog_4_method_12_code 16 = .ok (.istore_n 3, 1) := by decide +kernel
theorem kE_substitute_d17 : decode prog_4_method_12_code 17 = .ok (.iload_n 3, 1) := by decide +kernel
theorem kE_substitute_d18 : decode prog_4_method_12_code 18 = .ok (.ifCond .lt 159, 3) := by decide +kernel
theorem kE_substitute_d21 : decode prog_4_method_12_code 21 = .ok (.aload_n 0, 1) := by decide +kernel
theorem kE_substitute_d22 : decode prog_4_method_12_code 22 = .ok (.getfield 21, 3) := by decide +kernel
theorem kE_substitute_d25 : decode prog_4_method_12_code 25 = .ok (.iload_n 2, 1) := by decide +kernel
theorem kE_substitute_d26 : decode prog_4_method_12_code 26 = .ok (.baload, 1) := by decide +kernel
theorem kE_substitute_d27 : decode prog_4_method_12_code 27 = .ok (.ifCond .ne 150, 3) := by decide +kernel
theorem kE_substitute_d30 : decode prog_4_method_12_code 30 = .ok (.aload_n 0, 1) := by decide +kernel
theorem kE_substitute_d31 : decode prog_4_method_12_code 31 = .ok (.getfield 38, 3) := by decide +kernel
theorem kE_substitute_d34 : decode prog_4_method_12_code 34 = .ok (.getfield 156, 3) := by decide +kernel
theorem kE_substitute_d37 : decode prog_4_method_12_code 37 = .ok (.aload_n 0, 1) := by decide +kernel
theorem kE_substitute_d38 : decode prog_4_method_12_code 38 = .ok (.getfield 28, 3) := by decide +kernel
theorem kE_substitute_d41 : decode prog_4_method_12_code 41 = .ok (.aload_n 0, 1) := by decide +kernel
theorem kE_substitute_d42 : decode prog_4_method_12_code 42 = .ok (.iload_n 3, 1) := by decide +kernel
theorem kE_substitute_d43 : decode prog_4_method_12_code 43 = .ok (.iload_n 2, 1) := by decide +kernel
theorem kE_substitute_d44 : decode prog_4_method_12_code 44 = .ok (.invokevirtual 98, 3) := by decide +kernel
theorem kE_substitute_d47 : decode prog_4_method_12_code 47 = .ok (.invokevirtual 102, 3) := by decide +kernel
theorem kE_substitute_d50 : decode prog_4_method_12_code 50 = .ok (.iload_n 3, 1) := by decide +kernel
theorem kE_substitute_d51 : decode prog_4_method_12_code 51 = .ok (.iconst 1, 1) := by decide +kernel
theorem kE_substitute_d52 : decode prog_4_method_12_code 52 = .ok (.iadd, 1) := by decide +kernel
theorem kE_substitute_d53 : decode prog_4_method_12_code 53 = .ok (.istore 4, 2) := by decide +kernel
theorem kE_substitute_d55 : decode prog_4_method_12_code 55 = .ok (.iload 4, 2) := by decide +kernel
theorem kE_substitute_d57 : decode prog_4_method_12_code 57 = .ok (.aload_n 0, 1) := by decide +kernel
theorem kE_substitute_d58 : decode prog_4_method_12_code 58 = .ok (.getfield 128, 3) := by decide +kernel
theorem kE_substitute_d61 : decode prog_4_method_12_code 61 = .ok (.if_icmp .ge 63, 3) := by decide +kernel
theorem kE_substitute_d64 : decode prog_4_method_12_code 64 = .ok (.aload_n 0, 1) := by decide +kernel
theorem kE_substitute_d65 : decode prog_4_method_12_code 65 = .ok (.getfield 38, 3) := by decide +kernel
theorem kE_substitute_d68 : decode prog_4_method_12_code 68 = .ok (.getfield 95, 3) := by decide +kernel
theorem kE_substitute_d71 : decode prog_4_method_12_code 71 = .ok (.aload_n 0, 1) := by decide +kernel
theorem kE_substitute_d72 : decode prog_4_method_12_code 72 = .ok (.iload_n 3, 1) := by decide +kernel
theorem kE_substitute_d73 : decode prog_4_method_12_code 73 = .ok (.aload_n 0, 1) := by decide +kernel
theorem kE_substitute_d74 : decode prog_4_method_12_code 74 = .ok (.getfield 17, 3) := by decide +kernel
theorem kE_substitute_d77 : decode prog_4_method_12_code 77 = .ok (.iload 4, 2) := by decide +kernel
theorem kE_substitute_d79 : decode prog_4_method_12_code 79 = .ok (.iaload, 1) := by decide +kernel
theorem kE_substitute_d80 : decode prog_4_method_12_code 80 = .ok (.invokevirtual 98, 3) := by decide +kernel
theorem kE_substitute_d83 : decode prog_4_method_12_code 83 = .ok (.aload_n 0, 1) := by decide +kernel
theorem kE_substitute_d84 : decode prog_4_method_12_code 84 = .ok (.iload 4, 2) := by decide +kernel
theorem kE_substitute_d86 : decode prog_4_method_12_code 86 = .ok (.iload_n 2, 1) := by decide +kernel
theorem kE_substitute_d87 : decode prog_4_method_12_code 87 = .ok (.invokevirtual 98, 3) := by decide +kernel
theorem kE_substitute_d90 : decode prog_4_method_12_code 90 = .ok (.invokevirtual 102, 3) := by decide +kernel
theorem kE_substitute_d93 : decode prog_4_method_12_code 93 = .ok (.aload_n 0, 1) := by decide +kernel
theorem kE_substitute_d94 : decode prog_4_method_12_code 94 = .ok (.getfield 38, 3) := by decide +kernel
theorem kE_substitute_d97 : decode prog_4_method_12_code 97 = .ok (.getfield 156, 3) := by decide +kernel
theorem kE_substitute_d100 : decode prog_4_method_12_code 100 = .ok (.aload_n 0, 1) := by decide +kernel
theorem kE_substitute_d101 : decode prog_4_method_12_code 101 = .ok (.getfield 38, 3) := by decide +kernel
theorem kE_substitute_d104 : decode prog_4_method_12_code 104 = .ok (.getfield 156, 3) := by decide +kernel
theorem kE_substitute_d107 : decode prog_4_method_12_code 107 = .ok (.aload_n 0, 1) := by decide +kernel
theorem kE_substitute_d108 : decode prog_4_method_12_code 108 = .ok (.getfield 38, 3) := by decide +kernel
theorem kE_substitute_d111 : decode prog_4_method_12_code 111 = .ok (.getfield 95, 3) := by decide +kernel
theorem kE_substitute_d114 : decode prog_4_method_12_code 114 = .ok (.iconst 1, 1) := by decide +kernel
theorem kE_substitute_d115 : decode prog_4_method_12_code 115 = .ok (.invokevirtual 162, 3) := by decide +kernel
theorem kE_substitute_d118 : decode prog_4_method_12_code 118 = .ok (.iinc 4 1, 3) := by decide +kernel
theorem kE_substitute_d121 : decode prog_4_method_12_code 121 = .ok (.goto (-66), 3) := by decide +kernel
theorem kE_substitute_d124 : decode prog_4_method_12_code 124 = .ok (.aload_n 0, 1) := by decide +kernel
theorem kE_substitute_d125 : decode prog_4_method_12_code 125 = .ok (.getfield 38, 3) := by decide +kernel
theorem kE_substitute_d128 : decode prog_4_method_12_code 128 = .ok (.getfield 61, 3) := by decide +kernel
theorem kE_substitute_d131 : decode prog_4_method_12_code 131 = .ok (.aload_n 0, 1) := by decide +kernel
theorem kE_substitute_d132 : decode prog_4_method_12_code 132 = .ok (.getfield 38, 3) := by decide +kernel
theorem kE_substitute_d135 : decode prog_4_method_12_code 135 = .ok (.getfield 156, 3) := by decide +kernel
theorem kE_substitute_d138 : decode prog_4_method_12_code 138 = .ok (.aload_n 0, 1) := by decide +kernel
theorem kE_substitute_d139 : decode prog_4_method_12_code 139 = .ok (.iload_n 3, 1) := by decide +kernel
theorem kE_substitute_d140 : decode prog_4_method_12_code 140 = .ok (.aload_n 0, 1) := by decide +kernel
theorem kE_substitute_d141 : decode prog_4_method_12_code 141 = .ok (.getfield 17, 3) := by decide +kernel
theorem kE_substitute_d144 : decode prog_4_method_12_code 144 = .ok (.iload_n 3, 1) := by decide +kernel
theorem kE_substitute_d145 : decode prog_4_method_12_code 145 = .ok (.iaload, 1) := by decide +kernel
theorem kE_substitute_d146 : decode prog_4_method_12_code 146 = .ok (.invokevirtual 98, 3) := by decide +kernel
theorem kE_substitute_d149 : decode prog_4_method_12_code 149 = .ok (.invokevirtual 71, 3) := by decide +kernel
theorem kE_substitute_d152 : decode prog_4_method_12_code 152 = .ok (.aload_n 0, 1) := by decide +kernel
theorem kE_substitute_d153 : decode prog_4_method_12_code 153 = .ok (.iload_n 3, 1) := by decide +kernel
theorem kE_substitute_d154 : decode prog_4_method_12_code 154 = .ok (.iload_n 2, 1) := by decide +kernel
theorem kE_substitute_d155 : decode prog_4_method_12_code 155 = .ok (.invokevirtual 98, 3) := by decide +kernel
theorem kE_substitute_d158 : decode prog_4_method_12_code 158 = .ok (.aload_n 0, 1) := by decide +kernel
theorem kE_substitute_d159 : decode prog_4_method_12_code 159 = .ok (.getfield 38, 3) := by decide +kernel
theorem kE_substitute_d162 : decode prog_4_method_12_code 162 = .ok (.getfield 61, 3) := by decide +kernel
theorem kE_substitute_d165 : decode prog_4_method_12_code 165 = .ok (.getfield 77, 3) := by decide +kernel
theorem kE_substitute_d168 : decode prog_4_method_12_code 168 = .ok (.invokevirtual 80, 3) := by decide +kernel
theorem kE_substitute_d171 : decode prog_4_method_12_code 171 = .ok (.iinc 3 (-1), 3) := by decide +kernel
theorem kE_substitute_d174 : decode prog_4_method_12_code 174 = .ok (.goto (-157), 3) := by decide +kernel
theorem kE_substitute_d177 : decode prog_4_method_12_code 177 = .ok (.iinc 2 1, 3) := by decide +kernel
theorem kE_substitute_d180 : decode prog_4_method_12_code 180 = .ok (.goto (-178), 3) := by decide +kernel
theorem kE_substitute_d183 : decode prog_4_method_12_code 183 = .ok (.return_, 1) := by decide +kernel
theorem kE_append_d0 : decode prog_4_method_4_code 0 = .ok (.iconst 0, 1) := by decide +kernel
theorem kE_append_d1 : decode prog_4_method_4_code 1 = .ok (.istore_n 2, 1) := by decide +kernel
theorem kE_append_d2 : decode prog_4_method_4_code 2 = .ok (.iload_n 2, 1) := by decide +kernel
theorem kE_append_d3 : decode prog_4_method_4_code 3 = .ok (.aload_n 0, 1) := by decide +kernel
theorem kE_append_d4 : decode prog_4_method_4_code 4 = .ok (.getfield 48, 3) := by decide +kernel
theorem kE_append_d7 : decode prog_4_method_4_code 7 = .ok (.if_icmp .ge 212, 3) := by decide +kernel
theorem kE_append_d10 : decode prog_4_method_4_code 10 = .ok (.aload_n 0, 1) := by decide +kernel
theorem kE_append_d11 : decode prog_4_method_4_code 11 = .ok (.getfield 38, 3) := by decide +kernel
theorem kE_append_d14 : decode prog_4_method_4_code 14 = .ok (.aload_n 1, 1) := by decide +kernel
theorem kE_append_d15 : decode prog_4_method_4_code 15 = .ok (.iload_n 2, 1) := by decide +kernel
theorem kE_append_d16 : decode prog_4_method_4_code 16 = .ok (.iload_n 2, 1) := by decide +kernel
theorem kE_append_d17 : decode prog_4_method_4_code 17 = .ok (.iconst 1, 1) := by decide +kernel
theorem kE_append_d18 : decode prog_4_method_4_code 18 = .ok (.iadd, 1) := by decide +kernel
theorem kE_append_d19 : decode prog_4_method_4_code 19 = .ok (.invokevirtual 55, 3) := by decide +kernel
theorem kE_append_d22 : decode prog_4_method_4_code 22 = .ok (.aload_n 0, 1) := by decide +kernel
theorem kE_append_d23 : decode prog_4_method_4_code 23 = .ok (.getfield 38, 3) := by decide +kernel
theorem kE_append_d26 : decode prog_4_method_4_code 26 = .ok (.getfield 61, 3) := by decide +kernel
theorem kE_append_d29 : decode prog_4_method_4_code 29 = .ok (.aload_n 1, 1) := by decide +kernel
theorem kE_append_d30 : decode prog_4_method_4_code 30 = .ok (.getfield 65, 3) := by decide +kernel
theorem kE_append_d33 : decode prog_4_method_4_code 33 = .ok (.aload_n 0, 1) := by decide +kernel
theorem kE_append_d34 : decode prog_4_method_4_code 34 = .ok (.getfield 38, 3) := by decide +kernel
theorem kE_append_d37 : decode prog_4_method_4_code 37 = .ok (.getfield 68, 3) := by decide +kernel
theorem kE_append_d40 : decode prog_4_method_4_code 40 = .ok (.invokevirtual 71, 3) := by decide +kernel
theorem kE_append_d43 : decode prog_4_method_4_code 43 = .ok (.aload_n 0, 1) := by decide +kernel
theorem kE_append_d44 : decode prog_4_method_4_code 44 = .ok (.getfield 35, 3) := by decide +kernel
theorem kE_append_d47 : decode prog_4_method_4_code 47 = .ok (.aload_n 0, 1) := by decide +kernel
theorem kE_append_d48 : decode prog_4_method_4_code 48 = .ok (.getfield 38, 3) := by decide +kernel
theorem kE_append_d51 : decode prog_4_method_4_code 51 = .ok (.getfield 61, 3) := by decide +kernel
theorem kE_append_d54 : decode prog_4_method_4_code 54 = .ok (.getfield 77, 3) := by decide +kernel
theorem kE_append_d57 : decode prog_4_method_4_code 57 = .ok (.invokevirtual 80, 3) := by decide +kernel
theorem kE_append_d60 : decode prog_4_method_4_code 60 = .ok (.aload_n 0, 1) := by decide +kernel
theorem kE_append_d61 : decode prog_4_method_4_code 61 = .ok (.getfield 38, 3) := by decide +kernel
theorem kE_append_d64 : decode prog_4_method_4_code 64 = .ok (.aload_n 0, 1) := by decide +kernel
theorem kE_append_d65 : decode prog_4_method_4_code 65 = .ok (.getfield 11, 3) := by decide +kernel
theorem kE_append_d68 : decode prog_4_method_4_code 68 = .ok (.iload_n 2, 1) := by decide +kernel
theorem kE_append_d69 : decode prog_4_method_4_code 69 = .ok (.aaload, 1) := by decide +kernel
theorem kE_append_d70 : decode prog_4_method_4_code 70 = .ok (.aload_n 0, 1) := by decide +kernel
theorem kE_append_d71 : decode prog_4_method_4_code 71 = .ok (.getfield 35, 3) := by decide +kernel
theorem kE_append_d74 : decode prog_4_method_4_code 74 = .ok (.invokevirtual 92, 3) := by decide +kernel
theorem kE_append_d77 : decode prog_4_method_4_code 77 = .ok (.iconst 0, 1) := by decide +kernel
theorem kE_append_d78 : decode prog_4_method_4_code 78 = .ok (.istore_n 3, 1) := by decide +kernel
theorem kE_append_d79 : decode prog_4_method_4_code 79 = .ok (.iload_n 3, 1) := by decide +kernel
theorem kE_append_d80 : decode prog_4_method_4_code 80 = .ok (.aload_n 0, 1) := by decide +kernel
theorem kE_append_d81 : decode prog_4_method_4_code 81 = .ok (.getfield 52, 3) := by decide +kernel
theorem kE_append_d84 : decode prog_4_method_4_code 84 = .ok (.if_icmp .ge 45, 3) := by decide +kernel
theorem kE_append_d87 : decode prog_4_method_4_code 87 = .ok (.aload_n 0, 1) := by decide +kernel
theorem kE_append_d88 : decode prog_4_method_4_code 88 = .ok (.getfield 38, 3) := by decide +kernel
theorem kE_append_d91 : decode prog_4_method_4_code 91 = .ok (.getfield 95, 3) := by decide +kernel
theorem kE_append_d94 : decode prog_4_method_4_code 94 = .ok (.aload_n 0, 1) := by decide +kernel
theorem kE_append_d95 : decode prog_4_method_4_code 95 = .ok (.iload_n 2, 1) := by decide +kernel
theorem kE_append_d96 : decode prog_4_method_4_code 96 = .ok (.iload_n 3, 1) := by decide +kernel
theorem kE_append_d97 : decode prog_4_method_4_code 97 = .ok (.invokevirtual 98, 3) := by decide +kernel
theorem kE_append_d100 : decode prog_4_method_4_code 100 = .ok (.aload_n 0, 1) := by decide +kernel
theorem kE_append_d101 : decode prog_4_method_4_code 101 = .ok (.getfield 38, 3) := by decide +kernel
theorem kE_append_d104 : decode prog_4_method_4_code 104 = .ok (.getfield 99, 3) := by decide +kernel
theorem kE_append_d107 : decode prog_4_method_4_code 107 = .ok (.invokevirtual 102, 3) := by decide +kernel
theorem kE_append_d110 : decode prog_4_method_4_code 110 = .ok (.aload_n 0, 1) := by decide +kernel
theorem kE_append_d111 : decode prog_4_method_4_code 111 = .ok (.iload_n 2, 1) := by decide +kernel
theorem kE_append_d112 : decode prog_4_method_4_code 112 = .ok (.iload_n 3, 1) := by decide +kernel
theorem kE_append_d113 : decode prog_4_method_4_code 113 = .ok (.aload_n 0, 1) := by decide +kernel
theorem kE_append_d114 : decode prog_4_method_4_code 114 = .ok (.getfield 38, 3) := by decide +kernel
theorem kE_append_d117 : decode prog_4_method_4_code 117 = .ok (.getfield 95, 3) := by decide +kernel
theorem kE_append_d120 : decode prog_4_method_4_code 120 = .ok (.invokevirtual 88, 3) := by decide +kernel
theorem kE_append_d123 : decode prog_4_method_4_code 123 = .ok (.iinc 3 1, 3) := by decide +kernel
theorem kE_append_d126 : decode prog_4_method_4_code 126 = .ok (.goto (-47), 3) := by decide +kernel
theorem kE_append_d129 : decode prog_4_method_4_code 129 = .ok (.iconst 0, 1) := by decide +kernel
theorem kE_append_d130 : decode prog_4_method_4_code 130 = .ok (.istore_n 3, 1) := by decide +kernel
theorem kE_append_d131 : decode prog_4_method_4_code 131 = .ok (.iload_n 3, 1) := by decide +kernel
theorem kE_append_d132 : decode prog_4_method_4_code 132 = .ok (.aload_n 1, 1) := by decide +kernel
theorem kE_append_d133 : decode prog_4_method_4_code 133 = .ok (.getfield 49, 3) := by decide +kernel
theorem kE_append_d136 : decode prog_4_method_4_code 136 = .ok (.if_icmp .ge 77, 3) := by decide +kernel
theorem kE_append_d139 : decode prog_4_method_4_code 139 = .ok (.aload_n 0, 1) := by decide +kernel
theorem kE_append_d140 : decode prog_4_method_4_code 140 = .ok (.getfield 38, 3) := by decide +kernel
theorem kE_append_d143 : decode prog_4_method_4_code 143 = .ok (.getfield 61, 3) := by decide +kernel
theorem kE_append_d146 : decode prog_4_method_4_code 146 = .ok (.aload_n 1, 1) := by decide +kernel
theorem kE_append_d147 : decode prog_4_method_4_code 147 = .ok (.iload_n 2, 1) := by decide +kernel
theorem kE_append_d148 : decode prog_4_method_4_code 148 = .ok (.iload_n 3, 1) := by decide +kernel
theorem kE_append_d149 : decode prog_4_method_4_code 149 = .ok (.invokevirtual 84, 3) := by decide +kernel
theorem kE_append_d152 : decode prog_4_method_4_code 152 = .ok (.aload_n 0, 1) := by decide +kernel
theorem kE_append_d153 : decode prog_4_method_4_code 153 = .ok (.getfield 38, 3) := by decide +kernel
theorem kE_append_d156 : decode prog_4_method_4_code 156 = .ok (.getfield 68, 3) := by decide +kernel
theorem kE_append_d159 : decode prog_4_method_4_code 159 = .ok (.invokevirtual 71, 3) := by decide +kernel
theorem kE_append_d162 : decode prog_4_method_4_code 162 = .ok (.aload_n 0, 1) := by decide +kernel
theorem kE_append_d163 : decode prog_4_method_4_code 163 = .ok (.getfield 38, 3) := by decide +kernel
theorem kE_append_d166 : decode prog_4_method_4_code 166 = .ok (.getfield 95, 3) := by decide +kernel
theorem kE_append_d169 : decode prog_4_method_4_code 169 = .ok (.aload_n 0, 1) := by decide +kernel
theorem kE_append_d170 : decode prog_4_method_4_code 170 = .ok (.getfield 38, 3) := by decide +kernel
theorem kE_append_d173 : decode prog_4_method_4_code 173 = .ok (.getfield 61, 3) := by decide +kernel
theorem kE_append_d176 : decode prog_4_method_4_code 176 = .ok (.getfield 77, 3) := by decide +kernel
theorem kE_append_d179 : decode prog_4_method_4_code 179 = .ok (.aload_n 0, 1) := by decide +kernel
theorem kE_append_d180 : decode prog_4_method_4_code 180 = .ok (.getfield 38, 3) := by decide +kernel
theorem kE_append_d183 : decode prog_4_method_4_code 183 = .ok (.getfield 105, 3) := by decide +kernel
theorem kE_append_d186 : decode prog_4_method_4_code 186 = .ok (.invokevirtual 102, 3) := by decide +kernel
theorem kE_append_d189 : decode prog_4_method_4_code 189 = .ok (.aload_n 0, 1) := by decide +kernel
theorem kE_append_d190 : decode prog_4_method_4_code 190 = .ok (.iload_n 2, 1) := by decide +kernel
theorem kE_append_d191 : decode prog_4_method_4_code 191 = .ok (.aload_n 0, 1) := by decide +kernel
theorem kE_append_d192 : decode prog_4_method_4_code 192 = .ok (.getfield 52, 3) := by decide +kernel
theorem kE_append_d195 : decode prog_4_method_4_code 195 = .ok (.iload_n 3, 1) := by decide +kernel
theorem kE_append_d196 : decode prog_4_method_4_code 196 = .ok (.iadd, 1) := by decide +kernel
theorem kE_append_d197 : decode prog_4_method_4_code 197 = .ok (.aload_n 0, 1) := by decide +kernel
theorem kE_append_d198 : decode prog_4_method_4_code 198 = .ok (.getfield 38, 3) := by decide +kernel
theorem kE_append_d201 : decode prog_4_method_4_code 201 = .ok (.getfield 95, 3) := by decide +kernel
theorem kE_append_d204 : decode prog_4_method_4_code 204 = .ok (.invokevirtual 88, 3) := by decide +kernel
theorem kE_append_d207 : decode prog_4_method_4_code 207 = .ok (.iinc 3 1, 3) := by decide +kernel
theorem kE_append_d210 : decode prog_4_method_4_code 210 = .ok (.goto (-79), 3) := by decide +kernel
theorem kE_append_d213 : decode prog_4_method_4_code 213 = .ok (.iinc 2 1, 3) := by decide +kernel
theorem kE_append_d216 : decode prog_4_method_4_code 216 = .ok (.goto (-214), 3) := by decide +kernel
theorem kE_append_d219 : decode prog_4_method_4_code 219 = .ok (.aload_n 0, 1) := by decide +kernel
theorem kE_append_d220 : decode prog_4_method_4_code 220 = .ok (.dup, 1) := by decide +kernel
theorem kE_append_d221 : decode prog_4_method_4_code 221 = .ok (.getfield 52, 3) := by decide +kernel
theorem kE_append_d224 : decode prog_4_method_4_code 224 = .ok (.aload_n 1, 1) := by decide +kernel
theorem kE_append_d225 : decode prog_4_method_4_code 225 = .ok (.getfield 49, 3) := by decide +kernel
theorem kE_append_d228 : decode prog_4_method_4_code 228 = .ok (.iadd, 1) := by decide +kernel
theorem kE_append_d229 : decode prog_4_method_4_code 229 = .ok (.putfield 52, 3) := by decide +kernel
theorem kE_append_d232 : decode prog_4_method_4_code 232 = .ok (.return_, 1) := by decide +kernel
theorem kE_hasMoreBehind_d0 : decode prog_4_method_11_code 0 = .ok (.aload_n 0, 1) := by decide +kernel
theorem kE_hasMoreBehind_d1 : decode prog_4_method_11_code 1 = .ok (.getfield 128, 3) := by decide +kernel
theorem kE_hasMoreBehind_d4 : decode prog_4_method_11_code 4 = .ok (.istore_n 2, 1) := by decide +kernel
theorem kE_hasMoreBehind_d5 : decode prog_4_method_11_code 5 = .ok (.iload_n 2, 1) := by decide +kernel
theorem kE_hasMoreBehind_d6 : decode prog_4_method_11_code 6 = .ok (.aload_n 0, 1) := by decide +kernel
theorem kE_hasMoreBehind_d7 : decode prog_4_method_11_code 7 = .ok (.getfield 48, 3) := by decide +kernel
theorem kE_hasMoreBehind_d10 : decode prog_4_method_11_code 10 = .ok (.if_icmp .ge 39, 3) := by decide +kernel
theorem kE_hasMoreBehind_d13 : decode prog_4_method_11_code 13 = .ok (.iload_n 1, 1) := by decide +kernel
theorem kE_hasMoreBehind_d14 : decode prog_4_method_11_code 14 = .ok (.istore_n 3, 1) := by decide +kernel
theorem kE_hasMoreBehind_d15 : decode prog_4_method_11_code 15 = .ok (.iload_n 3, 1) := by decide +kernel
theorem kE_hasMoreBehind_d16 : decode prog_4_method_11_code 16 = .ok (.aload_n 0, 1) := by decide +kernel
theorem kE_hasMoreBehind_d17 : decode prog_4_method_11_code 17 = .ok (.getfield 52, 3) := by decide +kernel
theorem kE_hasMoreBehind_d20 : decode prog_4_method_11_code 20 = .ok (.if_icmp .ge 23, 3) := by decide +kernel
theorem kE_hasMoreBehind_d23 : decode prog_4_method_11_code 23 = .ok (.aload_n 0, 1) := by decide +kernel
theorem kE_hasMoreBehind_d24 : decode prog_4_method_11_code 24 = .ok (.iload_n 2, 1) := by decide +kernel
theorem kE_hasMoreBehind_d25 : decode prog_4_method_11_code 25 = .ok (.iload_n 3, 1) := by decide +kernel
theorem kE_hasMoreBehind_d26 : decode prog_4_method_11_code 26 = .ok (.invokevirtual 98, 3) := by decide +kernel
theorem kE_hasMoreBehind_d29 : decode prog_4_method_11_code 29 = .ok (.getfield 146, 3) := by decide +kernel
theorem kE_hasMoreBehind_d32 : decode prog_4_method_11_code 32 = .ok (.ifCond .le 5, 3) := by decide +kernel
theorem kE_hasMoreBehind_d35 : decode prog_4_method_11_code 35 = .ok (.iconst 1, 1) := by decide +kernel
theorem kE_hasMoreBehind_d36 : decode prog_4_method_11_code 36 = .ok (.ireturn, 1) := by decide +kernel
theorem kE_hasMoreBehind_d37 : decode prog_4_method_11_code 37 = .ok (.iinc 3 1, 3) := by decide +kernel
theorem kE_hasMoreBehind_d40 : decode prog_4_method_11_code 40 = .ok (.goto (-25), 3) := by decide +kernel
theorem kE_hasMoreBehind_d43 : decode prog_4_method_11_code 43 = .ok (.iinc 2 1, 3) := by decide +kernel
theorem kE_hasMoreBehind_d46 : decode prog_4_method_11_code 46 = .ok (.goto (-41), 3) := by decide +kernel
theorem kE_hasMoreBehind_d49 : decode prog_4_method_11_code 49 = .ok (.iconst 0, 1) := by decide +kernel
theorem kE_hasMoreBehind_d50 : decode prog_4_method_11_code 50 = .ok (.ireturn, 1) := by decide +kernel
