/-! decode rows of ExactForms$Divider -/
theorem kD_init_d0 : decode prog_3_method_1_code 0 = .ok (.aload_n 0, 1) := by decide +kernel
theorem kD_init_d1 : decode prog_3_method_1_code 1 = .ok (.invokespecial 3, 3) := by decide +kernel
theorem kD_init_d4 : decode prog_3_method_1_code 4 = .ok (.aload_n 0, 1) := by decide +kernel
theorem kD_init_d5 : decode prog_3_method_1_code 5 = .ok (.new 9, 3) := by decide +kernel
theorem kD_init_d8 : decode prog_3_method_1_code 8 = .ok (.dup, 1) := by decide +kernel
theorem kD_init_d9 : decode prog_3_method_1_code 9 = .ok (.sipush 252, 3) := by decide +kernel
theorem kD_init_d12 : decode prog_3_method_1_code 12 = .ok (.invokespecial 11, 3) := by decide +kernel
theorem kD_init_d15 : decode prog_3_method_1_code 15 = .ok (.putfield 14, 3) := by decide +kernel
theorem kD_init_d18 : decode prog_3_method_1_code 18 = .ok (.aload_n 0, 1) := by decide +kernel
theorem kD_init_d19 : decode prog_3_method_1_code 19 = .ok (.new 9, 3) := by decide +kernel
theorem kD_init_d22 : decode prog_3_method_1_code 22 = .ok (.dup, 1) := by decide +kernel
theorem kD_init_d23 : decode prog_3_method_1_code 23 = .ok (.sipush 252, 3) := by decide +kernel
theorem kD_init_d26 : decode prog_3_method_1_code 26 = .ok (.invokespecial 11, 3) := by decide +kernel
theorem kD_init_d29 : decode prog_3_method_1_code 29 = .ok (.putfield 20, 3) := by decide +kernel
theorem kD_init_d32 : decode prog_3_method_1_code 32 = .ok (.aload_n 0, 1) := by decide +kernel
theorem kD_init_d33 : decode prog_3_method_1_code 33 = .ok (.sipush 253, 3) := by decide +kernel
theorem kD_init_d36 : decode prog_3_method_1_code 36 = .ok (.newarray .int, 2) := by decide +kernel
theorem kD_init_d38 : decode prog_3_method_1_code 38 = .ok (.putfield 23, 3) := by decide +kernel
theorem kD_init_d41 : decode prog_3_method_1_code 41 = .ok (.aload_n 0, 1) := by decide +kernel
theorem kD_init_d42 : decode prog_3_method_1_code 42 = .ok (.sipush 253, 3) := by decide +kernel
theorem kD_init_d45 : decode prog_3_method_1_code 45 = .ok (.newarray .int, 2) := by decide +kernel
theorem kD_init_d47 : decode prog_3_method_1_code 47 = .ok (.putfield 27, 3) := by decide +kernel
theorem kD_init_d50 : decode prog_3_method_1_code 50 = .ok (.return_, 1) := by decide +kernel
theorem kD_divide_d0 : decode prog_3_method_2_code 0 = .ok (.aload_n 1, 1) := by decide +kernel
theorem kD_divide_d1 : decode prog_3_method_2_code 1 = .ok (.getfield 30, 3) := by decide +kernel
theorem kD_divide_d4 : decode prog_3_method_2_code 4 = .ok (.aload_n 2, 1) := by decide +kernel
theorem kD_divide_d5 : decode prog_3_method_2_code 5 = .ok (.getfield 30, 3) := by decide +kernel
theorem kD_divide_d8 : decode prog_3_method_2_code 8 = .ok (.if_icmp .eq 7, 3) := by decide +kernel
theorem kD_divide_d11 : decode prog_3_method_2_code 11 = .ok (.iconst 1, 1) := by decide +kernel
theorem kD_divide_d12 : decode prog_3_method_2_code 12 = .ok (.goto 4, 3) := by decide +kernel
theorem kD_divide_d15 : decode prog_3_method_2_code 15 = .ok (.iconst 0, 1) := by decide +kernel
theorem kD_divide_d16 : decode prog_3_method_2_code 16 = .ok (.istore_n 3, 1) := by decide +kernel
theorem kD_divide_d17 : decode prog_3_method_2_code 17 = .ok (.aload_n 1, 1) := by decide +kernel
theorem kD_divide_d18 : decode prog_3_method_2_code 18 = .ok (.getfield 30, 3) := by decide +kernel
theorem kD_divide_d21 : decode prog_3_method_2_code 21 = .ok (.istore 4, 2) := by decide +kernel
theorem kD_divide_d23 : decode prog_3_method_2_code 23 = .ok (.aload_n 2, 1) := by decide +kernel
theorem kD_divide_d24 : decode prog_3_method_2_code 24 = .ok (.getfield 34, 3) := by decide +kernel
theorem kD_divide_d27 : decode prog_3_method_2_code 27 = .ok (.ifCond .eq 11, 3) := by decide +kernel
theorem kD_divide_d30 : decode prog_3_method_2_code 30 = .ok (.aload_n 1, 1) := by decide +kernel
theorem kD_divide_d31 : decode prog_3_method_2_code 31 = .ok (.aload_n 2, 1) := by decide +kernel
theorem kD_divide_d32 : decode prog_3_method_2_code 32 = .ok (.invokevirtual 38, 3) := by decide +kernel
theorem kD_divide_d35 : decode prog_3_method_2_code 35 = .ok (.ifCond .ge 19, 3) := by decide +kernel
theorem kD_divide_d38 : decode prog_3_method_2_code 38 = .ok (.aload_n 0, 1) := by decide +kernel
theorem kD_divide_d39 : decode prog_3_method_2_code 39 = .ok (.getfield 14, 3) := by decide +kernel
theorem kD_divide_d42 : decode prog_3_method_2_code 42 = .ok (.invokevirtual 42, 3) := by decide +kernel
theorem kD_divide_d45 : decode prog_3_method_2_code 45 = .ok (.aload_n 0, 1) := by decide +kernel
theorem kD_divide_d46 : decode prog_3_method_2_code 46 = .ok (.getfield 20, 3) := by decide +kernel
theorem kD_divide_d49 : decode prog_3_method_2_code 49 = .ok (.aload_n 1, 1) := by decide +kernel
theorem kD_divide_d50 : decode prog_3_method_2_code 50 = .ok (.invokevirtual 45, 3) := by decide +kernel
theorem kD_divide_d53 : decode prog_3_method_2_code 53 = .ok (.return_, 1) := by decide +kernel
theorem kD_divide_d54 : decode prog_3_method_2_code 54 = .ok (.aload_n 2, 1) := by decide +kernel
theorem kD_divide_d55 : decode prog_3_method_2_code 55 = .ok (.getfield 34, 3) := by decide +kernel
theorem kD_divide_d58 : decode prog_3_method_2_code 58 = .ok (.iconst 1, 1) := by decide +kernel
theorem kD_divide_d59 : decode prog_3_method_2_code 59 = .ok (.if_icmp .ne 22, 3) := by decide +kernel
theorem kD_divide_d62 : decode prog_3_method_2_code 62 = .ok (.aload_n 0, 1) := by decide +kernel
theorem kD_divide_d63 : decode prog_3_method_2_code 63 = .ok (.aload_n 1, 1) := by decide +kernel
theorem kD_divide_d64 : decode prog_3_method_2_code 64 = .ok (.aload_n 2, 1) := by decide +kernel
theorem kD_divide_d65 : decode prog_3_method_2_code 65 = .ok (.getfield 49, 3) := by decide +kernel
theorem kD_divide_d68 : decode prog_3_method_2_code 68 = .ok (.iconst 0, 1) := by decide +kernel
theorem kD_divide_d69 : decode prog_3_method_2_code 69 = .ok (.iaload, 1) := by decide +kernel
theorem kD_divide_d70 : decode prog_3_method_2_code 70 = .ok (.i2l, 1) := by decide +kernel
theorem kD_divide_d71 : decode prog_3_method_2_code 71 = .ok (.ldc2_w 52, 3) := by decide +kernel
theorem kD_divide_d74 : decode prog_3_method_2_code 74 = .ok (.land, 1) := by decide +kernel
theorem kD_divide_d75 : decode prog_3_method_2_code 75 = .ok (.invokevirtual 54, 3) := by decide +kernel
theorem kD_divide_d78 : decode prog_3_method_2_code 78 = .ok (.goto 9, 3) := by decide +kernel
theorem kD_divide_d81 : decode prog_3_method_2_code 81 = .ok (.aload_n 0, 1) := by decide +kernel
theorem kD_divide_d82 : decode prog_3_method_2_code 82 = .ok (.aload_n 1, 1) := by decide +kernel
theorem kD_divide_d83 : decode prog_3_method_2_code 83 = .ok (.aload_n 2, 1) := by decide +kernel
theorem kD_divide_d84 : decode prog_3_method_2_code 84 = .ok (.invokevirtual 58, 3) := by decide +kernel
theorem kD_divide_d87 : decode prog_3_method_2_code 87 = .ok (.aload_n 0, 1) := by decide +kernel
theorem kD_divide_d88 : decode prog_3_method_2_code 88 = .ok (.getfield 14, 3) := by decide +kernel
theorem kD_divide_d91 : decode prog_3_method_2_code 91 = .ok (.iload_n 3, 1) := by decide +kernel
theorem kD_divide_d92 : decode prog_3_method_2_code 92 = .ok (.putfield 30, 3) := by decide +kernel
theorem kD_divide_d95 : decode prog_3_method_2_code 95 = .ok (.aload_n 0, 1) := by decide +kernel
theorem kD_divide_d96 : decode prog_3_method_2_code 96 = .ok (.getfield 14, 3) := by decide +kernel
theorem kD_divide_d99 : decode prog_3_method_2_code 99 = .ok (.invokevirtual 62, 3) := by decide +kernel
theorem kD_divide_d102 : decode prog_3_method_2_code 102 = .ok (.aload_n 0, 1) := by decide +kernel
theorem kD_divide_d103 : decode prog_3_method_2_code 103 = .ok (.getfield 20, 3) := by decide +kernel
theorem kD_divide_d106 : decode prog_3_method_2_code 106 = .ok (.iload 4, 2) := by decide +kernel
theorem kD_divide_d108 : decode prog_3_method_2_code 108 = .ok (.putfield 30, 3) := by decide +kernel
theorem kD_divide_d111 : decode prog_3_method_2_code 111 = .ok (.aload_n 0, 1) := by decide +kernel
theorem kD_divide_d112 : decode prog_3_method_2_code 112 = .ok (.getfield 20, 3) := by decide +kernel
theorem kD_divide_d115 : decode prog_3_method_2_code 115 = .ok (.invokevirtual 62, 3) := by decide +kernel
theorem kD_divide_d118 : decode prog_3_method_2_code 118 = .ok (.return_, 1) := by decide +kernel
theorem kD_divideByLimb_d0 : decode prog_3_method_3_code 0 = .ok (.aload_n 0, 1) := by decide +kernel
theorem kD_divideByLimb_d1 : decode prog_3_method_3_code 1 = .ok (.getfield 14, 3) := by decide +kernel
theorem kD_divideByLimb_d4 : decode prog_3_method_3_code 4 = .ok (.aload_n 1, 1) := by decide +kernel
theorem kD_divideByLimb_d5 : decode prog_3_method_3_code 5 = .ok (.getfield 34, 3) := by decide +kernel
theorem kD_divideByLimb_d8 : decode prog_3_method_3_code 8 = .ok (.invokevirtual 65, 3) := by decide +kernel
theorem kD_divideByLimb_d11 : decode prog_3_method_3_code 11 = .ok (.aload_n 0, 1) := by decide +kernel
theorem kD_divideByLimb_d12 : decode prog_3_method_3_code 12 = .ok (.getfield 14, 3) := by decide +kernel
theorem kD_divideByLimb_d15 : decode prog_3_method_3_code 15 = .ok (.aload_n 1, 1) := by decide +kernel
theorem kD_divideByLimb_d16 : decode prog_3_method_3_code 16 = .ok (.getfield 34, 3) := by decide +kernel
theorem kD_divideByLimb_d19 : decode prog_3_method_3_code 19 = .ok (.putfield 34, 3) := by decide +kernel
theorem kD_divideByLimb_d22 : decode prog_3_method_3_code 22 = .ok (.lconst 0, 1) := by decide +kernel
theorem kD_divideByLimb_d23 : decode prog_3_method_3_code 23 = .ok (.lstore 4, 2) := by decide +kernel
theorem kD_divideByLimb_d25 : decode prog_3_method_3_code 25 = .ok (.lload_n 2, 1) := by decide +kernel
theorem kD_divideByLimb_d26 : decode prog_3_method_3_code 26 = .ok (.lconst 1, 1) := by decide +kernel
theorem kD_divideByLimb_d27 : decode prog_3_method_3_code 27 = .ok (.lcmp, 1) := by decide +kernel
theorem kD_divideByLimb_d28 : decode prog_3_method_3_code 28 = .ok (.ifCond .ne 26, 3) := by decide +kernel
theorem kD_divideByLimb_d31 : decode prog_3_method_3_code 31 = .ok (.aload_n 1, 1) := by decide +kernel
theorem kD_divideByLimb_d32 : decode prog_3_method_3_code 32 = .ok (.getfield 49, 3) := by decide +kernel
theorem kD_divideByLimb_d35 : decode prog_3_method_3_code 35 = .ok (.iconst 0, 1) := by decide +kernel
theorem kD_divideByLimb_d36 : decode prog_3_method_3_code 36 = .ok (.aload_n 0, 1) := by decide +kernel
theorem kD_divideByLimb_d37 : decode prog_3_method_3_code 37 = .ok (.getfield 14, 3) := by decide +kernel
theorem kD_divideByLimb_d40 : decode prog_3_method_3_code 40 = .ok (.getfield 49, 3) := by decide +kernel
theorem kD_divideByLimb_d43 : decode prog_3_method_3_code 43 = .ok (.iconst 0, 1) := by decide +kernel
theorem kD_divideByLimb_d44 : decode prog_3_method_3_code 44 = .ok (.aload_n 1, 1) := by decide +kernel
theorem kD_divideByLimb_d45 : decode prog_3_method_3_code 45 = .ok (.getfield 34, 3) := by decide +kernel
theorem kD_divideByLimb_d48 : decode prog_3_method_3_code 48 = .ok (.invokestatic 68, 3) := by decide +kernel
theorem kD_divideByLimb_d51 : decode prog_3_method_3_code 51 = .ok (.goto 99, 3) := by decide +kernel
theorem kD_divideByLimb_d54 : decode prog_3_method_3_code 54 = .ok (.lload_n 2, 1) := by decide +kernel
theorem kD_divideByLimb_d55 : decode prog_3_method_3_code 55 = .ok (.lconst 1, 1) := by decide +kernel
theorem kD_divideByLimb_d56 : decode prog_3_method_3_code 56 = .ok (.lcmp, 1) := by decide +kernel
theorem kD_divideByLimb_d57 : decode prog_3_method_3_code 57 = .ok (.ifCond .le 93, 3) := by decide +kernel
theorem kD_divideByLimb_d60 : decode prog_3_method_3_code 60 = .ok (.aload_n 1, 1) := by decide +kernel
theorem kD_divideByLimb_d61 : decode prog_3_method_3_code 61 = .ok (.getfield 34, 3) := by decide +kernel
theorem kD_divideByLimb_d64 : decode prog_3_method_3_code 64 = .ok (.iconst 1, 1) := by decide +kernel
theorem kD_divideByLimb_d65 : decode prog_3_method_3_code 65 = .ok (.isub, 1) := by decide +kernel
theorem kD_divideByLimb_d66 : decode prog_3_method_3_code 66 = .ok (.istore 6, 2) := by decide +kernel
theorem kD_divideByLimb_d68 : decode prog_3_method_3_code 68 = .ok (.iload 6, 2) := by decide +kernel
theorem kD_divideByLimb_d70 : decode prog_3_method_3_code 70 = .ok (.ifCond .lt 80, 3) := by decide +kernel
theorem kD_divideByLimb_d73 : decode prog_3_method_3_code 73 = .ok (.lload 4, 2) := by decide +kernel
theorem kD_divideByLimb_d75 : decode prog_3_method_3_code 75 = .ok (.bipush 32, 2) := by decide +kernel
theorem kD_divideByLimb_d77 : decode prog_3_method_3_code 77 = .ok (.lshl, 1) := by decide +kernel
theorem kD_divideByLimb_d78 : decode prog_3_method_3_code 78 = .ok (.aload_n 1, 1) := by decide +kernel
theorem kD_divideByLimb_d79 : decode prog_3_method_3_code 79 = .ok (.getfield 49, 3) := by decide +kernel
theorem kD_divideByLimb_d82 : decode prog_3_method_3_code 82 = .ok (.iload 6, 2) := by decide +kernel
theorem kD_divideByLimb_d84 : decode prog_3_method_3_code 84 = .ok (.iaload, 1) := by decide +kernel
theorem kD_divideByLimb_d85 : decode prog_3_method_3_code 85 = .ok (.i2l, 1) := by decide +kernel
theorem kD_divideByLimb_d86 : decode prog_3_method_3_code 86 = .ok (.ldc2_w 52, 3) := by decide +kernel
theorem kD_divideByLimb_d89 : decode prog_3_method_3_code 89 = .ok (.land, 1) := by decide +kernel
theorem kD_divideByLimb_d90 : decode prog_3_method_3_code 90 = .ok (.lor, 1) := by decide +kernel
theorem kD_divideByLimb_d91 : decode prog_3_method_3_code 91 = .ok (.lstore 7, 2) := by decide +kernel
theorem kD_divideByLimb_d93 : decode prog_3_method_3_code 93 = .ok (.lload 7, 2) := by decide +kernel
theorem kD_divideByLimb_d95 : decode prog_3_method_3_code 95 = .ok (.iconst 1, 1) := by decide +kernel
theorem kD_divideByLimb_d96 : decode prog_3_method_3_code 96 = .ok (.lushr, 1) := by decide +kernel
theorem kD_divideByLimb_d97 : decode prog_3_method_3_code 97 = .ok (.lload_n 2, 1) := by decide +kernel
theorem kD_divideByLimb_d98 : decode prog_3_method_3_code 98 = .ok (.ldiv, 1) := by decide +kernel
theorem kD_divideByLimb_d99 : decode prog_3_method_3_code 99 = .ok (.iconst 1, 1) := by decide +kernel
theorem kD_divideByLimb_d100 : decode prog_3_method_3_code 100 = .ok (.lshl, 1) := by decide +kernel
theorem kD_divideByLimb_d101 : decode prog_3_method_3_code 101 = .ok (.lstore 9, 2) := by decide +kernel
theorem kD_divideByLimb_d103 : decode prog_3_method_3_code 103 = .ok (.lload 7, 2) := by decide +kernel
theorem kD_divideByLimb_d105 : decode prog_3_method_3_code 105 = .ok (.lload 9, 2) := by decide +kernel
theorem kD_divideByLimb_d107 : decode prog_3_method_3_code 107 = .ok (.lload_n 2, 1) := by decide +kernel
theorem kD_divideByLimb_d108 : decode prog_3_method_3_code 108 = .ok (.lmul, 1) := by decide +kernel
theorem kD_divideByLimb_d109 : decode prog_3_method_3_code 109 = .ok (.lsub, 1) := by decide +kernel
theorem kD_divideByLimb_d110 : decode prog_3_method_3_code 110 = .ok (.lstore 4, 2) := by decide +kernel
theorem kD_divideByLimb_d112 : decode prog_3_method_3_code 112 = .ok (.lload 4, 2) := by decide +kernel
theorem kD_divideByLimb_d114 : decode prog_3_method_3_code 114 = .ok (.lload_n 2, 1) := by decide +kernel
theorem kD_divideByLimb_d115 : decode prog_3_method_3_code 115 = .ok (.lcmp, 1) := by decide +kernel
theorem kD_divideByLimb_d116 : decode prog_3_method_3_code 116 = .ok (.ifCond .lt 15, 3) := by decide +kernel
theorem kD_divideByLimb_d119 : decode prog_3_method_3_code 119 = .ok (.lload 4, 2) := by decide +kernel
theorem kD_divideByLimb_d121 : decode prog_3_method_3_code 121 = .ok (.lload_n 2, 1) := by decide +kernel
theorem kD_divideByLimb_d122 : decode prog_3_method_3_code 122 = .ok (.lsub, 1) := by decide +kernel
theorem kD_divideByLimb_d123 : decode prog_3_method_3_code 123 = .ok (.lstore 4, 2) := by decide +kernel
theorem kD_divideByLimb_d125 : decode prog_3_method_3_code 125 = .ok (.lload 9, 2) := by decide +kernel
theorem kD_divideByLimb_d127 : decode prog_3_method_3_code 127 = .ok (.lconst 1, 1) := by decide +kernel
theorem kD_divideByLimb_d128 : decode prog_3_method_3_code 128 = .ok (.ladd, 1) := by decide +kernel
theorem kD_divideByLimb_d129 : decode prog_3_method_3_code 129 = .ok (.lstore 9, 2) := by decide +kernel
theorem kD_divideByLimb_d131 : decode prog_3_method_3_code 131 = .ok (.aload_n 0, 1) := by decide +kernel
theorem kD_divideByLimb_d132 : decode prog_3_method_3_code 132 = .ok (.getfield 14, 3) := by decide +kernel
theorem kD_divideByLimb_d135 : decode prog_3_method_3_code 135 = .ok (.getfield 49, 3) := by decide +kernel
theorem kD_divideByLimb_d138 : decode prog_3_method_3_code 138 = .ok (.iload 6, 2) := by decide +kernel
theorem kD_divideByLimb_d140 : decode prog_3_method_3_code 140 = .ok (.lload 9, 2) := by decide +kernel
theorem kD_divideByLimb_d142 : decode prog_3_method_3_code 142 = .ok (.l2i, 1) := by decide +kernel
theorem kD_divideByLimb_d143 : decode prog_3_method_3_code 143 = .ok (.iastore, 1) := by decide +kernel
theorem kD_divideByLimb_d144 : decode prog_3_method_3_code 144 = .ok (.iinc 6 (-1), 3) := by decide +kernel
theorem kD_divideByLimb_d147 : decode prog_3_method_3_code 147 = .ok (.goto (-79), 3) := by decide +kernel
theorem kD_divideByLimb_d150 : decode prog_3_method_3_code 150 = .ok (.aload_n 0, 1) := by decide +kernel
theorem kD_divideByLimb_d151 : decode prog_3_method_3_code 151 = .ok (.getfield 20, 3) := by decide +kernel
theorem kD_divideByLimb_d154 : decode prog_3_method_3_code 154 = .ok (.getfield 49, 3) := by decide +kernel
theorem kD_divideByLimb_d157 : decode prog_3_method_3_code 157 = .ok (.iconst 0, 1) := by decide +kernel
theorem kD_divideByLimb_d158 : decode prog_3_method_3_code 158 = .ok (.lload 4, 2) := by decide +kernel
theorem kD_divideByLimb_d160 : decode prog_3_method_3_code 160 = .ok (.l2i, 1) := by decide +kernel
theorem kD_divideByLimb_d161 : decode prog_3_method_3_code 161 = .ok (.iastore, 1) := by decide +kernel
theorem kD_divideByLimb_d162 : decode prog_3_method_3_code 162 = .ok (.aload_n 0, 1) := by decide +kernel
theorem kD_divideByLimb_d163 : decode prog_3_method_3_code 163 = .ok (.getfield 20, 3) := by decide +kernel
theorem kD_divideByLimb_d166 : decode prog_3_method_3_code 166 = .ok (.iconst 1, 1) := by decide +kernel
theorem kD_divideByLimb_d167 : decode prog_3_method_3_code 167 = .ok (.putfield 34, 3) := by decide +kernel
theorem kD_divideByLimb_d170 : decode prog_3_method_3_code 170 = .ok (.return_, 1) := by decide +kernel
theorem kD_divideByMore_d0 : decode prog_3_method_4_code 0 = .ok (.aload_n 2, 1) := by decide +kernel
theorem kD_divideByMore_d1 : decode prog_3_method_4_code 1 = .ok (.getfield 34, 3) := by decide +kernel
theorem kD_divideByMore_d4 : decode prog_3_method_4_code 4 = .ok (.istore_n 3, 1) := by decide +kernel
theorem kD_divideByMore_d5 : decode prog_3_method_4_code 5 = .ok (.bipush 32, 2) := by decide +kernel
theorem kD_divideByMore_d7 : decode prog_3_method_4_code 7 = .ok (.aload_n 2, 1) := by decide +kernel
theorem kD_divideByMore_d8 : decode prog_3_method_4_code 8 = .ok (.getfield 49, 3) := by decide +kernel
theorem kD_divideByMore_d11 : decode prog_3_method_4_code 11 = .ok (.iload_n 3, 1) := by decide +kernel
theorem kD_divideByMore_d12 : decode prog_3_method_4_code 12 = .ok (.iconst 1, 1) := by decide +kernel
theorem kD_divideByMore_d13 : decode prog_3_method_4_code 13 = .ok (.isub, 1) := by decide +kernel
theorem kD_divideByMore_d14 : decode prog_3_method_4_code 14 = .ok (.iaload, 1) := by decide +kernel
theorem kD_divideByMore_d15 : decode prog_3_method_4_code 15 = .ok (.invokestatic 74, 3) := by decide +kernel
theorem kD_divideByMore_d18 : decode prog_3_method_4_code 18 = .ok (.isub, 1) := by decide +kernel
theorem kD_divideByMore_d19 : decode prog_3_method_4_code 19 = .ok (.istore 4, 2) := by decide +kernel
theorem kD_divideByMore_d21 : decode prog_3_method_4_code 21 = .ok (.aload_n 1, 1) := by decide +kernel
theorem kD_divideByMore_d22 : decode prog_3_method_4_code 22 = .ok (.aload_n 0, 1) := by decide +kernel
theorem kD_divideByMore_d23 : decode prog_3_method_4_code 23 = .ok (.getfield 23, 3) := by decide +kernel
theorem kD_divideByMore_d26 : decode prog_3_method_4_code 26 = .ok (.iload 4, 2) := by decide +kernel
theorem kD_divideByMore_d28 : decode prog_3_method_4_code 28 = .ok (.invokestatic 78, 3) := by decide +kernel
theorem kD_divideByMore_d31 : decode prog_3_method_4_code 31 = .ok (.aload_n 2, 1) := by decide +kernel
theorem kD_divideByMore_d32 : decode prog_3_method_4_code 32 = .ok (.aload_n 0, 1) := by decide +kernel
theorem kD_divideByMore_d33 : decode prog_3_method_4_code 33 = .ok (.getfield 27, 3) := by decide +kernel
theorem kD_divideByMore_d36 : decode prog_3_method_4_code 36 = .ok (.iload 4, 2) := by decide +kernel
theorem kD_divideByMore_d38 : decode prog_3_method_4_code 38 = .ok (.invokestatic 78, 3) := by decide +kernel
theorem kD_divideByMore_d41 : decode prog_3_method_4_code 41 = .ok (.aload_n 0, 1) := by decide +kernel
theorem kD_divideByMore_d42 : decode prog_3_method_4_code 42 = .ok (.getfield 14, 3) := by decide +kernel
theorem kD_divideByMore_d45 : decode prog_3_method_4_code 45 = .ok (.aload_n 1, 1) := by decide +kernel
theorem kD_divideByMore_d46 : decode prog_3_method_4_code 46 = .ok (.getfield 34, 3) := by decide +kernel
theorem kD_divideByMore_d49 : decode prog_3_method_4_code 49 = .ok (.iload_n 3, 1) := by decide +kernel
theorem kD_divideByMore_d50 : decode prog_3_method_4_code 50 = .ok (.isub, 1) := by decide +kernel
theorem kD_divideByMore_d51 : decode prog_3_method_4_code 51 = .ok (.iconst 1, 1) := by decide +kernel
theorem kD_divideByMore_d52 : decode prog_3_method_4_code 52 = .ok (.iadd, 1) := by decide +kernel
theorem kD_divideByMore_d53 : decode prog_3_method_4_code 53 = .ok (.invokevirtual 65, 3) := by decide +kernel
theorem kD_divideByMore_d56 : decode prog_3_method_4_code 56 = .ok (.aload_n 0, 1) := by decide +kernel
theorem kD_divideByMore_d57 : decode prog_3_method_4_code 57 = .ok (.getfield 14, 3) := by decide +kernel
theorem kD_divideByMore_d60 : decode prog_3_method_4_code 60 = .ok (.aload_n 1, 1) := by decide +kernel
theorem kD_divideByMore_d61 : decode prog_3_method_4_code 61 = .ok (.getfield 34, 3) := by decide +kernel
theorem kD_divideByMore_d64 : decode prog_3_method_4_code 64 = .ok (.iload_n 3, 1) := by decide +kernel
theorem kD_divideByMore_d65 : decode prog_3_method_4_code 65 = .ok (.isub, 1) := by decide +kernel
theorem kD_divideByMore_d66 : decode prog_3_method_4_code 66 = .ok (.iconst 1, 1) := by decide +kernel
theorem kD_divideByMore_d67 : decode prog_3_method_4_code 67 = .ok (.iadd, 1) := by decide +kernel
theorem kD_divideByMore_d68 : decode prog_3_method_4_code 68 = .ok (.putfield 34, 3) := by decide +kernel
theorem kD_divideByMore_d71 : decode prog_3_method_4_code 71 = .ok (.aload_n 1, 1) := by decide +kernel
theorem kD_divideByMore_d72 : decode prog_3_method_4_code 72 = .ok (.getfield 34, 3) := by decide +kernel
theorem kD_divideByMore_d75 : decode prog_3_method_4_code 75 = .ok (.iload_n 3, 1) := by decide +kernel
theorem kD_divideByMore_d76 : decode prog_3_method_4_code 76 = .ok (.isub, 1) := by decide +kernel
theorem kD_divideByMore_d77 : decode prog_3_method_4_code 77 = .ok (.istore 5, 2) := by decide +kernel
theorem kD_divideByMore_d79 : decode prog_3_method_4_code 79 = .ok (.iload 5, 2) := by decide +kernel
theorem kD_divideByMore_d81 : decode prog_3_method_4_code 81 = .ok (.ifCond .lt 83, 3) := by decide +kernel
theorem kD_divideByMore_d84 : decode prog_3_method_4_code 84 = .ok (.aload_n 0, 1) := by decide +kernel
theorem kD_divideByMore_d85 : decode prog_3_method_4_code 85 = .ok (.iload 5, 2) := by decide +kernel
theorem kD_divideByMore_d87 : decode prog_3_method_4_code 87 = .ok (.iload_n 3, 1) := by decide +kernel
theorem kD_divideByMore_d88 : decode prog_3_method_4_code 88 = .ok (.iadd, 1) := by decide +kernel
theorem kD_divideByMore_d89 : decode prog_3_method_4_code 89 = .ok (.aload_n 0, 1) := by decide +kernel
theorem kD_divideByMore_d90 : decode prog_3_method_4_code 90 = .ok (.getfield 27, 3) := by decide +kernel
theorem kD_divideByMore_d93 : decode prog_3_method_4_code 93 = .ok (.iload_n 3, 1) := by decide +kernel
theorem kD_divideByMore_d94 : decode prog_3_method_4_code 94 = .ok (.iconst 1, 1) := by decide +kernel
theorem kD_divideByMore_d95 : decode prog_3_method_4_code 95 = .ok (.isub, 1) := by decide +kernel
theorem kD_divideByMore_d96 : decode prog_3_method_4_code 96 = .ok (.iaload, 1) := by decide +kernel
theorem kD_divideByMore_d97 : decode prog_3_method_4_code 97 = .ok (.i2l, 1) := by decide +kernel
theorem kD_divideByMore_d98 : decode prog_3_method_4_code 98 = .ok (.ldc2_w 52, 3) := by decide +kernel
theorem kD_divideByMore_d101 : decode prog_3_method_4_code 101 = .ok (.land, 1) := by decide +kernel
theorem kD_divideByMore_d102 : decode prog_3_method_4_code 102 = .ok (.aload_n 0, 1) := by decide +kernel
theorem kD_divideByMore_d103 : decode prog_3_method_4_code 103 = .ok (.getfield 27, 3) := by decide +kernel
theorem kD_divideByMore_d106 : decode prog_3_method_4_code 106 = .ok (.iload_n 3, 1) := by decide +kernel
theorem kD_divideByMore_d107 : decode prog_3_method_4_code 107 = .ok (.iconst 2, 1) := by decide +kernel
theorem kD_divideByMore_d108 : decode prog_3_method_4_code 108 = .ok (.isub, 1) := by decide +kernel
theorem kD_divideByMore_d109 : decode prog_3_method_4_code 109 = .ok (.iaload, 1) := by decide +kernel
theorem kD_divideByMore_d110 : decode prog_3_method_4_code 110 = .ok (.i2l, 1) := by decide +kernel
theorem kD_divideByMore_d111 : decode prog_3_method_4_code 111 = .ok (.ldc2_w 52, 3) := by decide +kernel
theorem kD_divideByMore_d114 : decode prog_3_method_4_code 114 = .ok (.land, 1) := by decide +kernel
theorem kD_divideByMore_d115 : decode prog_3_method_4_code 115 = .ok (.invokevirtual 82, 3) := by decide +kernel
theorem kD_divideByMore_d118 : decode prog_3_method_4_code 118 = .ok (.lstore 6, 2) := by decide +kernel
theorem kD_divideByMore_d120 : decode prog_3_method_4_code 120 = .ok (.aload_n 0, 1) := by decide +kernel
theorem kD_divideByMore_d121 : decode prog_3_method_4_code 121 = .ok (.lload 6, 2) := by decide +kernel
theorem kD_divideByMore_d123 : decode prog_3_method_4_code 123 = .ok (.iload 5, 2) := by decide +kernel
theorem kD_divideByMore_d125 : decode prog_3_method_4_code 125 = .ok (.iload_n 3, 1) := by decide +kernel
theorem kD_divideByMore_d126 : decode prog_3_method_4_code 126 = .ok (.invokevirtual 86, 3) := by decide +kernel
theorem kD_divideByMore_d129 : decode prog_3_method_4_code 129 = .ok (.ifCond .eq 16, 3) := by decide +kernel
theorem kD_divideByMore_d132 : decode prog_3_method_4_code 132 = .ok (.aload_n 0, 1) := by decide +kernel
theorem kD_divideByMore_d133 : decode prog_3_method_4_code 133 = .ok (.iload 5, 2) := by decide +kernel
theorem kD_divideByMore_d135 : decode prog_3_method_4_code 135 = .ok (.iload_n 3, 1) := by decide +kernel
theorem kD_divideByMore_d136 : decode prog_3_method_4_code 136 = .ok (.invokevirtual 90, 3) := by decide +kernel
theorem kD_divideByMore_d139 : decode prog_3_method_4_code 139 = .ok (.lload 6, 2) := by decide +kernel
theorem kD_divideByMore_d141 : decode prog_3_method_4_code 141 = .ok (.lconst 1, 1) := by decide +kernel
theorem kD_divideByMore_d142 : decode prog_3_method_4_code 142 = .ok (.lsub, 1) := by decide +kernel
theorem kD_divideByMore_d143 : decode prog_3_method_4_code 143 = .ok (.lstore 6, 2) := by decide +kernel
theorem kD_divideByMore_d145 : decode prog_3_method_4_code 145 = .ok (.aload_n 0, 1) := by decide +kernel
theorem kD_divideByMore_d146 : decode prog_3_method_4_code 146 = .ok (.getfield 14, 3) := by decide +kernel
theorem kD_divideByMore_d149 : decode prog_3_method_4_code 149 = .ok (.getfield 49, 3) := by decide +kernel
theorem kD_divideByMore_d152 : decode prog_3_method_4_code 152 = .ok (.iload 5, 2) := by decide +kernel
theorem kD_divideByMore_d154 : decode prog_3_method_4_code 154 = .ok (.lload 6, 2) := by decide +kernel
theorem kD_divideByMore_d156 : decode prog_3_method_4_code 156 = .ok (.l2i, 1) := by decide +kernel
theorem kD_divideByMore_d157 : decode prog_3_method_4_code 157 = .ok (.iastore, 1) := by decide +kernel
theorem kD_divideByMore_d158 : decode prog_3_method_4_code 158 = .ok (.iinc 5 (-1), 3) := by decide +kernel
theorem kD_divideByMore_d161 : decode prog_3_method_4_code 161 = .ok (.goto (-82), 3) := by decide +kernel
theorem kD_divideByMore_d164 : decode prog_3_method_4_code 164 = .ok (.aload_n 0, 1) := by decide +kernel
theorem kD_divideByMore_d165 : decode prog_3_method_4_code 165 = .ok (.getfield 20, 3) := by decide +kernel
theorem kD_divideByMore_d168 : decode prog_3_method_4_code 168 = .ok (.iload_n 3, 1) := by decide +kernel
theorem kD_divideByMore_d169 : decode prog_3_method_4_code 169 = .ok (.invokevirtual 65, 3) := by decide +kernel
theorem kD_divideByMore_d172 : decode prog_3_method_4_code 172 = .ok (.aload_n 0, 1) := by decide +kernel
theorem kD_divideByMore_d173 : decode prog_3_method_4_code 173 = .ok (.getfield 20, 3) := by decide +kernel
theorem kD_divideByMore_d176 : decode prog_3_method_4_code 176 = .ok (.iload_n 3, 1) := by decide +kernel
theorem kD_divideByMore_d177 : decode prog_3_method_4_code 177 = .ok (.putfield 34, 3) := by decide +kernel
theorem kD_divideByMore_d180 : decode prog_3_method_4_code 180 = .ok (.iconst 0, 1) := by decide +kernel
theorem kD_divideByMore_d181 : decode prog_3_method_4_code 181 = .ok (.istore 5, 2) := by decide +kernel
theorem kD_divideByMore_d183 : decode prog_3_method_4_code 183 = .ok (.iload 5, 2) := by decide +kernel
theorem kD_divideByMore_d185 : decode prog_3_method_4_code 185 = .ok (.iload_n 3, 1) := by decide +kernel
theorem kD_divideByMore_d186 : decode prog_3_method_4_code 186 = .ok (.if_icmp .ge 65, 3) := by decide +kernel
theorem kD_divideByMore_d189 : decode prog_3_method_4_code 189 = .ok (.aload_n 0, 1) := by decide +kernel
theorem kD_divideByMore_d190 : decode prog_3_method_4_code 190 = .ok (.getfield 23, 3) := by decide +kernel
theorem kD_divideByMore_d193 : decode prog_3_method_4_code 193 = .ok (.iload 5, 2) := by decide +kernel
theorem kD_divideByMore_d195 : decode prog_3_method_4_code 195 = .ok (.iaload, 1) := by decide +kernel
theorem kD_divideByMore_d196 : decode prog_3_method_4_code 196 = .ok (.i2l, 1) := by decide +kernel
theorem kD_divideByMore_d197 : decode prog_3_method_4_code 197 = .ok (.ldc2_w 52, 3) := by decide +kernel
theorem kD_divideByMore_d200 : decode prog_3_method_4_code 200 = .ok (.land, 1) := by decide +kernel
theorem kD_divideByMore_d201 : decode prog_3_method_4_code 201 = .ok (.iload 5, 2) := by decide +kernel
theorem kD_divideByMore_d203 : decode prog_3_method_4_code 203 = .ok (.iconst 1, 1) := by decide +kernel
theorem kD_divideByMore_d204 : decode prog_3_method_4_code 204 = .ok (.iadd, 1) := by decide +kernel
theorem kD_divideByMore_d205 : decode prog_3_method_4_code 205 = .ok (.iload_n 3, 1) := by decide +kernel
theorem kD_divideByMore_d206 : decode prog_3_method_4_code 206 = .ok (.if_icmp .ge 19, 3) := by decide +kernel
theorem kD_divideByMore_d209 : decode prog_3_method_4_code 209 = .ok (.aload_n 0, 1) := by decide +kernel
theorem kD_divideByMore_d210 : decode prog_3_method_4_code 210 = .ok (.getfield 23, 3) := by decide +kernel
theorem kD_divideByMore_d213 : decode prog_3_method_4_code 213 = .ok (.iload 5, 2) := by decide +kernel
theorem kD_divideByMore_d215 : decode prog_3_method_4_code 215 = .ok (.iconst 1, 1) := by decide +kernel
theorem kD_divideByMore_d216 : decode prog_3_method_4_code 216 = .ok (.iadd, 1) := by decide +kernel
theorem kD_divideByMore_d217 : decode prog_3_method_4_code 217 = .ok (.iaload, 1) := by decide +kernel
theorem kD_divideByMore_d218 : decode prog_3_method_4_code 218 = .ok (.i2l, 1) := by decide +kernel
theorem kD_divideByMore_d219 : decode prog_3_method_4_code 219 = .ok (.bipush 32, 2) := by decide +kernel
theorem kD_divideByMore_d221 : decode prog_3_method_4_code 221 = .ok (.lshl, 1) := by decide +kernel
theorem kD_divideByMore_d222 : decode prog_3_method_4_code 222 = .ok (.goto 4, 3) := by decide +kernel
theorem kD_divideByMore_d225 : decode prog_3_method_4_code 225 = .ok (.lconst 0, 1) := by decide +kernel
theorem kD_divideByMore_d226 : decode prog_3_method_4_code 226 = .ok (.lor, 1) := by decide +kernel
theorem kD_divideByMore_d227 : decode prog_3_method_4_code 227 = .ok (.lstore 6, 2) := by decide +kernel
theorem kD_divideByMore_d229 : decode prog_3_method_4_code 229 = .ok (.aload_n 0, 1) := by decide +kernel
theorem kD_divideByMore_d230 : decode prog_3_method_4_code 230 = .ok (.getfield 20, 3) := by decide +kernel
theorem kD_divideByMore_d233 : decode prog_3_method_4_code 233 = .ok (.getfield 49, 3) := by decide +kernel
theorem kD_divideByMore_d236 : decode prog_3_method_4_code 236 = .ok (.iload 5, 2) := by decide +kernel
theorem kD_divideByMore_d238 : decode prog_3_method_4_code 238 = .ok (.lload 6, 2) := by decide +kernel
theorem kD_divideByMore_d240 : decode prog_3_method_4_code 240 = .ok (.iload 4, 2) := by decide +kernel
theorem kD_divideByMore_d242 : decode prog_3_method_4_code 242 = .ok (.lushr, 1) := by decide +kernel
theorem kD_divideByMore_d243 : decode prog_3_method_4_code 243 = .ok (.l2i, 1) := by decide +kernel
theorem kD_divideByMore_d244 : decode prog_3_method_4_code 244 = .ok (.iastore, 1) := by decide +kernel
theorem kD_divideByMore_d245 : decode prog_3_method_4_code 245 = .ok (.iinc 5 1, 3) := by decide +kernel
theorem kD_divideByMore_d248 : decode prog_3_method_4_code 248 = .ok (.goto (-65), 3) := by decide +kernel
theorem kD_divideByMore_d251 : decode prog_3_method_4_code 251 = .ok (.return_, 1) := by decide +kernel
theorem kD_shiftUp_d0 : decode prog_3_method_5_code 0 = .ok (.lconst 0, 1) := by decide +kernel
theorem kD_shiftUp_d1 : decode prog_3_method_5_code 1 = .ok (.lstore_n 3, 1) := by decide +kernel
theorem kD_shiftUp_d2 : decode prog_3_method_5_code 2 = .ok (.iconst 0, 1) := by decide +kernel
theorem kD_shiftUp_d3 : decode prog_3_method_5_code 3 = .ok (.istore 5, 2) := by decide +kernel
theorem kD_shiftUp_d5 : decode prog_3_method_5_code 5 = .ok (.iload 5, 2) := by decide +kernel
theorem kD_shiftUp_d7 : decode prog_3_method_5_code 7 = .ok (.aload_n 0, 1) := by decide +kernel
theorem kD_shiftUp_d8 : decode prog_3_method_5_code 8 = .ok (.getfield 34, 3) := by decide +kernel
theorem kD_shiftUp_d11 : decode prog_3_method_5_code 11 = .ok (.if_icmp .ge 37, 3) := by decide +kernel
theorem kD_shiftUp_d14 : decode prog_3_method_5_code 14 = .ok (.lload_n 3, 1) := by decide +kernel
theorem kD_shiftUp_d15 : decode prog_3_method_5_code 15 = .ok (.aload_n 0, 1) := by decide +kernel
theorem kD_shiftUp_d16 : decode prog_3_method_5_code 16 = .ok (.getfield 49, 3) := by decide +kernel
theorem kD_shiftUp_d19 : decode prog_3_method_5_code 19 = .ok (.iload 5, 2) := by decide +kernel
theorem kD_shiftUp_d21 : decode prog_3_method_5_code 21 = .ok (.iaload, 1) := by decide +kernel
theorem kD_shiftUp_d22 : decode prog_3_method_5_code 22 = .ok (.i2l, 1) := by decide +kernel
theorem kD_shiftUp_d23 : decode prog_3_method_5_code 23 = .ok (.ldc2_w 52, 3) := by decide +kernel
theorem kD_shiftUp_d26 : decode prog_3_method_5_code 26 = .ok (.land, 1) := by decide +kernel
theorem kD_shiftUp_d27 : decode prog_3_method_5_code 27 = .ok (.iload_n 2, 1) := by decide +kernel
theorem kD_shiftUp_d28 : decode prog_3_method_5_code 28 = .ok (.lshl, 1) := by decide +kernel
theorem kD_shiftUp_d29 : decode prog_3_method_5_code 29 = .ok (.lor, 1) := by decide +kernel
theorem kD_shiftUp_d30 : decode prog_3_method_5_code 30 = .ok (.lstore_n 3, 1) := by decide +kernel
theorem kD_shiftUp_d31 : decode prog_3_method_5_code 31 = .ok (.aload_n 1, 1) := by decide +kernel
theorem kD_shiftUp_d32 : decode prog_3_method_5_code 32 = .ok (.iload 5, 2) := by decide +kernel
theorem kD_shiftUp_d34 : decode prog_3_method_5_code 34 = .ok (.lload_n 3, 1) := by decide +kernel
theorem kD_shiftUp_d35 : decode prog_3_method_5_code 35 = .ok (.l2i, 1) := by decide +kernel
theorem kD_shiftUp_d36 : decode prog_3_method_5_code 36 = .ok (.iastore, 1) := by decide +kernel
theorem kD_shiftUp_d37 : decode prog_3_method_5_code 37 = .ok (.lload_n 3, 1) := by decide +kernel
theorem kD_shiftUp_d38 : decode prog_3_method_5_code 38 = .ok (.bipush 32, 2) := by decide +kernel
theorem kD_shiftUp_d40 : decode prog_3_method_5_code 40 = .ok (.lushr, 1) := by decide +kernel
theorem kD_shiftUp_d41 : decode prog_3_method_5_code 41 = .ok (.lstore_n 3, 1) := by decide +kernel
theorem kD_shiftUp_d42 : decode prog_3_method_5_code 42 = .ok (.iinc 5 1, 3) := by decide +kernel
theorem kD_shiftUp_d45 : decode prog_3_method_5_code 45 = .ok (.goto (-40), 3) := by decide +kernel
theorem kD_shiftUp_d48 : decode prog_3_method_5_code 48 = .ok (.aload_n 1, 1) := by decide +kernel
theorem kD_shiftUp_d49 : decode prog_3_method_5_code 49 = .ok (.aload_n 0, 1) := by decide +kernel
theorem kD_shiftUp_d50 : decode prog_3_method_5_code 50 = .ok (.getfield 34, 3) := by decide +kernel
theorem kD_shiftUp_d53 : decode prog_3_method_5_code 53 = .ok (.lload_n 3, 1) := by decide +kernel
theorem kD_shiftUp_d54 : decode prog_3_method_5_code 54 = .ok (.l2i, 1) := by decide +kernel
theorem kD_shiftUp_d55 : decode prog_3_method_5_code 55 = .ok (.iastore, 1) := by decide +kernel
theorem kD_shiftUp_d56 : decode prog_3_method_5_code 56 = .ok (.return_, 1) := by decide +kernel
theorem kD_estimate_d0 : decode prog_3_method_6_code 0 = .ok (.aload_n 0, 1) := by decide +kernel
theorem kD_estimate_d1 : decode prog_3_method_6_code 1 = .ok (.getfield 23, 3) := by decide +kernel
theorem kD_estimate_d4 : decode prog_3_method_6_code 4 = .ok (.iload_n 1, 1) := by decide +kernel
theorem kD_estimate_d5 : decode prog_3_method_6_code 5 = .ok (.iaload, 1) := by decide +kernel
theorem kD_estimate_d6 : decode prog_3_method_6_code 6 = .ok (.i2l, 1) := by decide +kernel
theorem kD_estimate_d7 : decode prog_3_method_6_code 7 = .ok (.bipush 32, 2) := by decide +kernel
theorem kD_estimate_d9 : decode prog_3_method_6_code 9 = .ok (.lshl, 1) := by decide +kernel
theorem kD_estimate_d10 : decode prog_3_method_6_code 10 = .ok (.aload_n 0, 1) := by decide +kernel
theorem kD_estimate_d11 : decode prog_3_method_6_code 11 = .ok (.getfield 23, 3) := by decide +kernel
theorem kD_estimate_d14 : decode prog_3_method_6_code 14 = .ok (.iload_n 1, 1) := by decide +kernel
theorem kD_estimate_d15 : decode prog_3_method_6_code 15 = .ok (.iconst 1, 1) := by decide +kernel
theorem kD_estimate_d16 : decode prog_3_method_6_code 16 = .ok (.isub, 1) := by decide +kernel
theorem kD_estimate_d17 : decode prog_3_method_6_code 17 = .ok (.iaload, 1) := by decide +kernel
theorem kD_estimate_d18 : decode prog_3_method_6_code 18 = .ok (.i2l, 1) := by decide +kernel
theorem kD_estimate_d19 : decode prog_3_method_6_code 19 = .ok (.ldc2_w 52, 3) := by decide +kernel
theorem kD_estimate_d22 : decode prog_3_method_6_code 22 = .ok (.land, 1) := by decide +kernel
theorem kD_estimate_d23 : decode prog_3_method_6_code 23 = .ok (.lor, 1) := by decide +kernel
theorem kD_estimate_d24 : decode prog_3_method_6_code 24 = .ok (.lstore 6, 2) := by decide +kernel
theorem kD_estimate_d26 : decode prog_3_method_6_code 26 = .ok (.ldc2_w 52, 3) := by decide +kernel
theorem kD_estimate_d29 : decode prog_3_method_6_code 29 = .ok (.lstore 8, 2) := by decide +kernel
theorem kD_estimate_d31 : decode prog_3_method_6_code 31 = .ok (.aload_n 0, 1) := by decide +kernel
theorem kD_estimate_d32 : decode prog_3_method_6_code 32 = .ok (.getfield 23, 3) := by decide +kernel
theorem kD_estimate_d35 : decode prog_3_method_6_code 35 = .ok (.iload_n 1, 1) := by decide +kernel
theorem kD_estimate_d36 : decode prog_3_method_6_code 36 = .ok (.iconst 1, 1) := by decide +kernel
theorem kD_estimate_d37 : decode prog_3_method_6_code 37 = .ok (.isub, 1) := by decide +kernel
theorem kD_estimate_d38 : decode prog_3_method_6_code 38 = .ok (.iaload, 1) := by decide +kernel
theorem kD_estimate_d39 : decode prog_3_method_6_code 39 = .ok (.i2l, 1) := by decide +kernel
theorem kD_estimate_d40 : decode prog_3_method_6_code 40 = .ok (.ldc2_w 52, 3) := by decide +kernel
theorem kD_estimate_d43 : decode prog_3_method_6_code 43 = .ok (.land, 1) := by decide +kernel
theorem kD_estimate_d44 : decode prog_3_method_6_code 44 = .ok (.lload_n 2, 1) := by decide +kernel
theorem kD_estimate_d45 : decode prog_3_method_6_code 45 = .ok (.ladd, 1) := by decide +kernel
theorem kD_estimate_d46 : decode prog_3_method_6_code 46 = .ok (.lstore 10, 2) := by decide +kernel
theorem kD_estimate_d48 : decode prog_3_method_6_code 48 = .ok (.aload_n 0, 1) := by decide +kernel
theorem kD_estimate_d49 : decode prog_3_method_6_code 49 = .ok (.getfield 23, 3) := by decide +kernel
theorem kD_estimate_d52 : decode prog_3_method_6_code 52 = .ok (.iload_n 1, 1) := by decide +kernel
theorem kD_estimate_d53 : decode prog_3_method_6_code 53 = .ok (.iaload, 1) := by decide +kernel
theorem kD_estimate_d54 : decode prog_3_method_6_code 54 = .ok (.i2l, 1) := by decide +kernel
theorem kD_estimate_d55 : decode prog_3_method_6_code 55 = .ok (.ldc2_w 52, 3) := by decide +kernel
theorem kD_estimate_d58 : decode prog_3_method_6_code 58 = .ok (.land, 1) := by decide +kernel
theorem kD_estimate_d59 : decode prog_3_method_6_code 59 = .ok (.lload_n 2, 1) := by decide +kernel
theorem kD_estimate_d60 : decode prog_3_method_6_code 60 = .ok (.lcmp, 1) := by decide +kernel
theorem kD_estimate_d61 : decode prog_3_method_6_code 61 = .ok (.ifCond .ge 41, 3) := by decide +kernel
theorem kD_estimate_d64 : decode prog_3_method_6_code 64 = .ok (.lload 6, 2) := by decide +kernel
theorem kD_estimate_d66 : decode prog_3_method_6_code 66 = .ok (.iconst 1, 1) := by decide +kernel
theorem kD_estimate_d67 : decode prog_3_method_6_code 67 = .ok (.lushr, 1) := by decide +kernel
theorem kD_estimate_d68 : decode prog_3_method_6_code 68 = .ok (.lload_n 2, 1) := by decide +kernel
theorem kD_estimate_d69 : decode prog_3_method_6_code 69 = .ok (.ldiv, 1) := by decide +kernel
theorem kD_estimate_d70 : decode prog_3_method_6_code 70 = .ok (.iconst 1, 1) := by decide +kernel
theorem kD_estimate_d71 : decode prog_3_method_6_code 71 = .ok (.lshl, 1) := by decide +kernel
theorem kD_estimate_d72 : decode prog_3_method_6_code 72 = .ok (.lstore 8, 2) := by decide +kernel
theorem kD_estimate_d74 : decode prog_3_method_6_code 74 = .ok (.lload 6, 2) := by decide +kernel
theorem kD_estimate_d76 : decode prog_3_method_6_code 76 = .ok (.lload 8, 2) := by decide +kernel
theorem kD_estimate_d78 : decode prog_3_method_6_code 78 = .ok (.lload_n 2, 1) := by decide +kernel
theorem kD_estimate_d79 : decode prog_3_method_6_code 79 = .ok (.lmul, 1) := by decide +kernel
theorem kD_estimate_d80 : decode prog_3_method_6_code 80 = .ok (.lsub, 1) := by decide +kernel
theorem kD_estimate_d81 : decode prog_3_method_6_code 81 = .ok (.lstore 10, 2) := by decide +kernel
theorem kD_estimate_d83 : decode prog_3_method_6_code 83 = .ok (.lload 10, 2) := by decide +kernel
theorem kD_estimate_d85 : decode prog_3_method_6_code 85 = .ok (.lload_n 2, 1) := by decide +kernel
theorem kD_estimate_d86 : decode prog_3_method_6_code 86 = .ok (.lcmp, 1) := by decide +kernel
theorem kD_estimate_d87 : decode prog_3_method_6_code 87 = .ok (.ifCond .lt 15, 3) := by decide +kernel
theorem kD_estimate_d90 : decode prog_3_method_6_code 90 = .ok (.lload 10, 2) := by decide +kernel
theorem kD_estimate_d92 : decode prog_3_method_6_code 92 = .ok (.lload_n 2, 1) := by decide +kernel
theorem kD_estimate_d93 : decode prog_3_method_6_code 93 = .ok (.lsub, 1) := by decide +kernel
theorem kD_estimate_d94 : decode prog_3_method_6_code 94 = .ok (.lstore 10, 2) := by decide +kernel
theorem kD_estimate_d96 : decode prog_3_method_6_code 96 = .ok (.lload 8, 2) := by decide +kernel
theorem kD_estimate_d98 : decode prog_3_method_6_code 98 = .ok (.lconst 1, 1) := by decide +kernel
theorem kD_estimate_d99 : decode prog_3_method_6_code 99 = .ok (.ladd, 1) := by decide +kernel
theorem kD_estimate_d100 : decode prog_3_method_6_code 100 = .ok (.lstore 8, 2) := by decide +kernel
theorem kD_estimate_d102 : decode prog_3_method_6_code 102 = .ok (.iconst 0, 1) := by decide +kernel
theorem kD_estimate_d103 : decode prog_3_method_6_code 103 = .ok (.istore 12, 2) := by decide +kernel
theorem kD_estimate_d105 : decode prog_3_method_6_code 105 = .ok (.iload 12, 2) := by decide +kernel
theorem kD_estimate_d107 : decode prog_3_method_6_code 107 = .ok (.iconst 2, 1) := by decide +kernel
theorem kD_estimate_d108 : decode prog_3_method_6_code 108 = .ok (.if_icmp .ge 73, 3) := by decide +kernel
theorem kD_estimate_d111 : decode prog_3_method_6_code 111 = .ok (.lload 10, 2) := by decide +kernel
theorem kD_estimate_d113 : decode prog_3_method_6_code 113 = .ok (.ldc2_w 52, 3) := by decide +kernel
theorem kD_estimate_d116 : decode prog_3_method_6_code 116 = .ok (.lcmp, 1) := by decide +kernel
theorem kD_estimate_d117 : decode prog_3_method_6_code 117 = .ok (.ifCond .gt 64, 3) := by decide +kernel
theorem kD_estimate_d120 : decode prog_3_method_6_code 120 = .ok (.lload 10, 2) := by decide +kernel
theorem kD_estimate_d122 : decode prog_3_method_6_code 122 = .ok (.bipush 32, 2) := by decide +kernel
theorem kD_estimate_d124 : decode prog_3_method_6_code 124 = .ok (.lshl, 1) := by decide +kernel
theorem kD_estimate_d125 : decode prog_3_method_6_code 125 = .ok (.aload_n 0, 1) := by decide +kernel
theorem kD_estimate_d126 : decode prog_3_method_6_code 126 = .ok (.getfield 23, 3) := by decide +kernel
theorem kD_estimate_d129 : decode prog_3_method_6_code 129 = .ok (.iload_n 1, 1) := by decide +kernel
theorem kD_estimate_d130 : decode prog_3_method_6_code 130 = .ok (.iconst 2, 1) := by decide +kernel
theorem kD_estimate_d131 : decode prog_3_method_6_code 131 = .ok (.isub, 1) := by decide +kernel
theorem kD_estimate_d132 : decode prog_3_method_6_code 132 = .ok (.iaload, 1) := by decide +kernel
theorem kD_estimate_d133 : decode prog_3_method_6_code 133 = .ok (.i2l, 1) := by decide +kernel
theorem kD_estimate_d134 : decode prog_3_method_6_code 134 = .ok (.ldc2_w 52, 3) := by decide +kernel
theorem kD_estimate_d137 : decode prog_3_method_6_code 137 = .ok (.land, 1) := by decide +kernel
theorem kD_estimate_d138 : decode prog_3_method_6_code 138 = .ok (.lor, 1) := by decide +kernel
theorem kD_estimate_d139 : decode prog_3_method_6_code 139 = .ok (.lstore 13, 2) := by decide +kernel
theorem kD_estimate_d141 : decode prog_3_method_6_code 141 = .ok (.lload 8, 2) := by decide +kernel
theorem kD_estimate_d143 : decode prog_3_method_6_code 143 = .ok (.lload 4, 2) := by decide +kernel
theorem kD_estimate_d145 : decode prog_3_method_6_code 145 = .ok (.lmul, 1) := by decide +kernel
theorem kD_estimate_d146 : decode prog_3_method_6_code 146 = .ok (.ldc2_w 94, 3) := by decide +kernel
theorem kD_estimate_d149 : decode prog_3_method_6_code 149 = .ok (.ladd, 1) := by decide +kernel
theorem kD_estimate_d150 : decode prog_3_method_6_code 150 = .ok (.lload 13, 2) := by decide +kernel
theorem kD_estimate_d152 : decode prog_3_method_6_code 152 = .ok (.ldc2_w 94, 3) := by decide +kernel
theorem kD_estimate_d155 : decode prog_3_method_6_code 155 = .ok (.ladd, 1) := by decide +kernel
theorem kD_estimate_d156 : decode prog_3_method_6_code 156 = .ok (.lcmp, 1) := by decide +kernel
theorem kD_estimate_d157 : decode prog_3_method_6_code 157 = .ok (.ifCond .gt 6, 3) := by decide +kernel
theorem kD_estimate_d160 : decode prog_3_method_6_code 160 = .ok (.goto 21, 3) := by decide +kernel
theorem kD_estimate_d163 : decode prog_3_method_6_code 163 = .ok (.lload 8, 2) := by decide +kernel
theorem kD_estimate_d165 : decode prog_3_method_6_code 165 = .ok (.lconst 1, 1) := by decide +kernel
theorem kD_estimate_d166 : decode prog_3_method_6_code 166 = .ok (.lsub, 1) := by decide +kernel
theorem kD_estimate_d167 : decode prog_3_method_6_code 167 = .ok (.lstore 8, 2) := by decide +kernel
theorem kD_estimate_d169 : decode prog_3_method_6_code 169 = .ok (.lload 10, 2) := by decide +kernel
theorem kD_estimate_d171 : decode prog_3_method_6_code 171 = .ok (.lload_n 2, 1) := by decide +kernel
theorem kD_estimate_d172 : decode prog_3_method_6_code 172 = .ok (.ladd, 1) := by decide +kernel
theorem kD_estimate_d173 : decode prog_3_method_6_code 173 = .ok (.lstore 10, 2) := by decide +kernel
theorem kD_estimate_d175 : decode prog_3_method_6_code 175 = .ok (.iinc 12 1, 3) := by decide +kernel
theorem kD_estimate_d178 : decode prog_3_method_6_code 178 = .ok (.goto (-73), 3) := by decide +kernel
theorem kD_estimate_d181 : decode prog_3_method_6_code 181 = .ok (.lload 8, 2) := by decide +kernel
theorem kD_estimate_d183 : decode prog_3_method_6_code 183 = .ok (.lreturn, 1) := by decide +kernel
theorem kD_takeAway_d0 : decode prog_3_method_7_code 0 = .ok (.lconst 0, 1) := by decide +kernel
theorem kD_takeAway_d1 : decode prog_3_method_7_code 1 = .ok (.lstore 5, 2) := by decide +kernel
theorem kD_takeAway_d3 : decode prog_3_method_7_code 3 = .ok (.lconst 0, 1) := by decide +kernel
theorem kD_takeAway_d4 : decode prog_3_method_7_code 4 = .ok (.lstore 7, 2) := by decide +kernel
theorem kD_takeAway_d6 : decode prog_3_method_7_code 6 = .ok (.iconst 0, 1) := by decide +kernel
theorem kD_takeAway_d7 : decode prog_3_method_7_code 7 = .ok (.istore 9, 2) := by decide +kernel
theorem kD_takeAway_d9 : decode prog_3_method_7_code 9 = .ok (.iload 9, 2) := by decide +kernel
theorem kD_takeAway_d11 : decode prog_3_method_7_code 11 = .ok (.iload 4, 2) := by decide +kernel
theorem kD_takeAway_d13 : decode prog_3_method_7_code 13 = .ok (.if_icmp .ge 80, 3) := by decide +kernel
theorem kD_takeAway_d16 : decode prog_3_method_7_code 16 = .ok (.lload 5, 2) := by decide +kernel
theorem kD_takeAway_d18 : decode prog_3_method_7_code 18 = .ok (.lload_n 1, 1) := by decide +kernel
theorem kD_takeAway_d19 : decode prog_3_method_7_code 19 = .ok (.aload_n 0, 1) := by decide +kernel
theorem kD_takeAway_d20 : decode prog_3_method_7_code 20 = .ok (.getfield 27, 3) := by decide +kernel
theorem kD_takeAway_d23 : decode prog_3_method_7_code 23 = .ok (.iload 9, 2) := by decide +kernel
theorem kD_takeAway_d25 : decode prog_3_method_7_code 25 = .ok (.iaload, 1) := by decide +kernel
theorem kD_takeAway_d26 : decode prog_3_method_7_code 26 = .ok (.i2l, 1) := by decide +kernel
theorem kD_takeAway_d27 : decode prog_3_method_7_code 27 = .ok (.ldc2_w 52, 3) := by decide +kernel
theorem kD_takeAway_d30 : decode prog_3_method_7_code 30 = .ok (.land, 1) := by decide +kernel
theorem kD_takeAway_d31 : decode prog_3_method_7_code 31 = .ok (.lmul, 1) := by decide +kernel
theorem kD_takeAway_d32 : decode prog_3_method_7_code 32 = .ok (.ladd, 1) := by decide +kernel
theorem kD_takeAway_d33 : decode prog_3_method_7_code 33 = .ok (.lstore 5, 2) := by decide +kernel
theorem kD_takeAway_d35 : decode prog_3_method_7_code 35 = .ok (.lload 7, 2) := by decide +kernel
theorem kD_takeAway_d37 : decode prog_3_method_7_code 37 = .ok (.aload_n 0, 1) := by decide +kernel
theorem kD_takeAway_d38 : decode prog_3_method_7_code 38 = .ok (.getfield 23, 3) := by decide +kernel
theorem kD_takeAway_d41 : decode prog_3_method_7_code 41 = .ok (.iload_n 3, 1) := by decide +kernel
theorem kD_takeAway_d42 : decode prog_3_method_7_code 42 = .ok (.iload 9, 2) := by decide +kernel
theorem kD_takeAway_d44 : decode prog_3_method_7_code 44 = .ok (.iadd, 1) := by decide +kernel
theorem kD_takeAway_d45 : decode prog_3_method_7_code 45 = .ok (.iaload, 1) := by decide +kernel
theorem kD_takeAway_d46 : decode prog_3_method_7_code 46 = .ok (.i2l, 1) := by decide +kernel
theorem kD_takeAway_d47 : decode prog_3_method_7_code 47 = .ok (.ldc2_w 52, 3) := by decide +kernel
theorem kD_takeAway_d50 : decode prog_3_method_7_code 50 = .ok (.land, 1) := by decide +kernel
theorem kD_takeAway_d51 : decode prog_3_method_7_code 51 = .ok (.lload 5, 2) := by decide +kernel
theorem kD_takeAway_d53 : decode prog_3_method_7_code 53 = .ok (.ldc2_w 52, 3) := by decide +kernel
theorem kD_takeAway_d56 : decode prog_3_method_7_code 56 = .ok (.land, 1) := by decide +kernel
theorem kD_takeAway_d57 : decode prog_3_method_7_code 57 = .ok (.lsub, 1) := by decide +kernel
theorem kD_takeAway_d58 : decode prog_3_method_7_code 58 = .ok (.ladd, 1) := by decide +kernel
theorem kD_takeAway_d59 : decode prog_3_method_7_code 59 = .ok (.lstore 7, 2) := by decide +kernel
theorem kD_takeAway_d61 : decode prog_3_method_7_code 61 = .ok (.aload_n 0, 1) := by decide +kernel
theorem kD_takeAway_d62 : decode prog_3_method_7_code 62 = .ok (.getfield 23, 3) := by decide +kernel
theorem kD_takeAway_d65 : decode prog_3_method_7_code 65 = .ok (.iload_n 3, 1) := by decide +kernel
theorem kD_takeAway_d66 : decode prog_3_method_7_code 66 = .ok (.iload 9, 2) := by decide +kernel
theorem kD_takeAway_d68 : decode prog_3_method_7_code 68 = .ok (.iadd, 1) := by decide +kernel
theorem kD_takeAway_d69 : decode prog_3_method_7_code 69 = .ok (.lload 7, 2) := by decide +kernel
theorem kD_takeAway_d71 : decode prog_3_method_7_code 71 = .ok (.l2i, 1) := by decide +kernel
theorem kD_takeAway_d72 : decode prog_3_method_7_code 72 = .ok (.iastore, 1) := by decide +kernel
theorem kD_takeAway_d73 : decode prog_3_method_7_code 73 = .ok (.lload 5, 2) := by decide +kernel
theorem kD_takeAway_d75 : decode prog_3_method_7_code 75 = .ok (.bipush 32, 2) := by decide +kernel
theorem kD_takeAway_d77 : decode prog_3_method_7_code 77 = .ok (.lushr, 1) := by decide +kernel
theorem kD_takeAway_d78 : decode prog_3_method_7_code 78 = .ok (.lstore 5, 2) := by decide +kernel
theorem kD_takeAway_d80 : decode prog_3_method_7_code 80 = .ok (.lload 7, 2) := by decide +kernel
theorem kD_takeAway_d82 : decode prog_3_method_7_code 82 = .ok (.bipush 32, 2) := by decide +kernel
theorem kD_takeAway_d84 : decode prog_3_method_7_code 84 = .ok (.lshr, 1) := by decide +kernel
theorem kD_takeAway_d85 : decode prog_3_method_7_code 85 = .ok (.lstore 7, 2) := by decide +kernel
theorem kD_takeAway_d87 : decode prog_3_method_7_code 87 = .ok (.iinc 9 1, 3) := by decide +kernel
theorem kD_takeAway_d90 : decode prog_3_method_7_code 90 = .ok (.goto (-81), 3) := by decide +kernel
theorem kD_takeAway_d93 : decode prog_3_method_7_code 93 = .ok (.lload 7, 2) := by decide +kernel
theorem kD_takeAway_d95 : decode prog_3_method_7_code 95 = .ok (.aload_n 0, 1) := by decide +kernel
theorem kD_takeAway_d96 : decode prog_3_method_7_code 96 = .ok (.getfield 23, 3) := by decide +kernel
theorem kD_takeAway_d99 : decode prog_3_method_7_code 99 = .ok (.iload_n 3, 1) := by decide +kernel
theorem kD_takeAway_d100 : decode prog_3_method_7_code 100 = .ok (.iload 4, 2) := by decide +kernel
theorem kD_takeAway_d102 : decode prog_3_method_7_code 102 = .ok (.iadd, 1) := by decide +kernel
theorem kD_takeAway_d103 : decode prog_3_method_7_code 103 = .ok (.iaload, 1) := by decide +kernel
theorem kD_takeAway_d104 : decode prog_3_method_7_code 104 = .ok (.i2l, 1) := by decide +kernel
theorem kD_takeAway_d105 : decode prog_3_method_7_code 105 = .ok (.ldc2_w 52, 3) := by decide +kernel
theorem kD_takeAway_d108 : decode prog_3_method_7_code 108 = .ok (.land, 1) := by decide +kernel
theorem kD_takeAway_d109 : decode prog_3_method_7_code 109 = .ok (.lload 5, 2) := by decide +kernel
theorem kD_takeAway_d111 : decode prog_3_method_7_code 111 = .ok (.lsub, 1) := by decide +kernel
theorem kD_takeAway_d112 : decode prog_3_method_7_code 112 = .ok (.ladd, 1) := by decide +kernel
theorem kD_takeAway_d113 : decode prog_3_method_7_code 113 = .ok (.lstore 7, 2) := by decide +kernel
theorem kD_takeAway_d115 : decode prog_3_method_7_code 115 = .ok (.aload_n 0, 1) := by decide +kernel
theorem kD_takeAway_d116 : decode prog_3_method_7_code 116 = .ok (.getfield 23, 3) := by decide +kernel
theorem kD_takeAway_d119 : decode prog_3_method_7_code 119 = .ok (.iload_n 3, 1) := by decide +kernel
theorem kD_takeAway_d120 : decode prog_3_method_7_code 120 = .ok (.iload 4, 2) := by decide +kernel
theorem kD_takeAway_d122 : decode prog_3_method_7_code 122 = .ok (.iadd, 1) := by decide +kernel
theorem kD_takeAway_d123 : decode prog_3_method_7_code 123 = .ok (.lload 7, 2) := by decide +kernel
theorem kD_takeAway_d125 : decode prog_3_method_7_code 125 = .ok (.l2i, 1) := by decide +kernel
theorem kD_takeAway_d126 : decode prog_3_method_7_code 126 = .ok (.iastore, 1) := by decide +kernel
theorem kD_takeAway_d127 : decode prog_3_method_7_code 127 = .ok (.lload 7, 2) := by decide +kernel
theorem kD_takeAway_d129 : decode prog_3_method_7_code 129 = .ok (.lconst 0, 1) := by decide +kernel
theorem kD_takeAway_d130 : decode prog_3_method_7_code 130 = .ok (.lcmp, 1) := by decide +kernel
theorem kD_takeAway_d131 : decode prog_3_method_7_code 131 = .ok (.ifCond .ge 7, 3) := by decide +kernel
theorem kD_takeAway_d134 : decode prog_3_method_7_code 134 = .ok (.iconst 1, 1) := by decide +kernel
theorem kD_takeAway_d135 : decode prog_3_method_7_code 135 = .ok (.goto 4, 3) := by decide +kernel
theorem kD_takeAway_d138 : decode prog_3_method_7_code 138 = .ok (.iconst 0, 1) := by decide +kernel
theorem kD_takeAway_d139 : decode prog_3_method_7_code 139 = .ok (.ireturn, 1) := by decide +kernel
theorem kD_giveBack_d0 : decode prog_3_method_8_code 0 = .ok (.lconst 0, 1) := by decide +kernel
theorem kD_giveBack_d1 : decode prog_3_method_8_code 1 = .ok (.lstore_n 3, 1) := by decide +kernel
theorem kD_giveBack_d2 : decode prog_3_method_8_code 2 = .ok (.iconst 0, 1) := by decide +kernel
theorem kD_giveBack_d3 : decode prog_3_method_8_code 3 = .ok (.istore 5, 2) := by decide +kernel
theorem kD_giveBack_d5 : decode prog_3_method_8_code 5 = .ok (.iload 5, 2) := by decide +kernel
theorem kD_giveBack_d7 : decode prog_3_method_8_code 7 = .ok (.iload_n 2, 1) := by decide +kernel
theorem kD_giveBack_d8 : decode prog_3_method_8_code 8 = .ok (.if_icmp .ge 55, 3) := by decide +kernel
theorem kD_giveBack_d11 : decode prog_3_method_8_code 11 = .ok (.lload_n 3, 1) := by decide +kernel
theorem kD_giveBack_d12 : decode prog_3_method_8_code 12 = .ok (.aload_n 0, 1) := by decide +kernel
theorem kD_giveBack_d13 : decode prog_3_method_8_code 13 = .ok (.getfield 23, 3) := by decide +kernel
theorem kD_giveBack_d16 : decode prog_3_method_8_code 16 = .ok (.iload_n 1, 1) := by decide +kernel
theorem kD_giveBack_d17 : decode prog_3_method_8_code 17 = .ok (.iload 5, 2) := by decide +kernel
theorem kD_giveBack_d19 : decode prog_3_method_8_code 19 = .ok (.iadd, 1) := by decide +kernel
theorem kD_giveBack_d20 : decode prog_3_method_8_code 20 = .ok (.iaload, 1) := by decide +kernel
theorem kD_giveBack_d21 : decode prog_3_method_8_code 21 = .ok (.i2l, 1) := by decide +kernel
theorem kD_giveBack_d22 : decode prog_3_method_8_code 22 = .ok (.ldc2_w 52, 3) := by decide +kernel
theorem kD_giveBack_d25 : decode prog_3_method_8_code 25 = .ok (.land, 1) := by decide +kernel
theorem kD_giveBack_d26 : decode prog_3_method_8_code 26 = .ok (.aload_n 0, 1) := by decide +kernel
theorem kD_giveBack_d27 : decode prog_3_method_8_code 27 = .ok (.getfield 27, 3) := by decide +kernel
theorem kD_giveBack_d30 : decode prog_3_method_8_code 30 = .ok (.iload 5, 2) := by decide +kernel
theorem kD_giveBack_d32 : decode prog_3_method_8_code 32 = .ok (.iaload, 1) := by decide +kernel
theorem kD_giveBack_d33 : decode prog_3_method_8_code 33 = .ok (.i2l, 1) := by decide +kernel
theorem kD_giveBack_d34 : decode prog_3_method_8_code 34 = .ok (.ldc2_w 52, 3) := by decide +kernel
theorem kD_giveBack_d37 : decode prog_3_method_8_code 37 = .ok (.land, 1) := by decide +kernel
theorem kD_giveBack_d38 : decode prog_3_method_8_code 38 = .ok (.ladd, 1) := by decide +kernel
theorem kD_giveBack_d39 : decode prog_3_method_8_code 39 = .ok (.ladd, 1) := by decide +kernel
theorem kD_giveBack_d40 : decode prog_3_method_8_code 40 = .ok (.lstore_n 3, 1) := by decide +kernel
theorem kD_giveBack_d41 : decode prog_3_method_8_code 41 = .ok (.aload_n 0, 1) := by decide +kernel
theorem kD_giveBack_d42 : decode prog_3_method_8_code 42 = .ok (.getfield 23, 3) := by decide +kernel
theorem kD_giveBack_d45 : decode prog_3_method_8_code 45 = .ok (.iload_n 1, 1) := by decide +kernel
theorem kD_giveBack_d46 : decode prog_3_method_8_code 46 = .ok (.iload 5, 2) := by decide +kernel
theorem kD_giveBack_d48 : decode prog_3_method_8_code 48 = .ok (.iadd, 1) := by decide +kernel
theorem kD_giveBack_d49 : decode prog_3_method_8_code 49 = .ok (.lload_n 3, 1) := by decide +kernel
theorem kD_giveBack_d50 : decode prog_3_method_8_code 50 = .ok (.l2i, 1) := by decide +kernel
theorem kD_giveBack_d51 : decode prog_3_method_8_code 51 = .ok (.iastore, 1) := by decide +kernel
theorem kD_giveBack_d52 : decode prog_3_method_8_code 52 = .ok (.lload_n 3, 1) := by decide +kernel
theorem kD_giveBack_d53 : decode prog_3_method_8_code 53 = .ok (.bipush 32, 2) := by decide +kernel
theorem kD_giveBack_d55 : decode prog_3_method_8_code 55 = .ok (.lushr, 1) := by decide +kernel
theorem kD_giveBack_d56 : decode prog_3_method_8_code 56 = .ok (.lstore_n 3, 1) := by decide +kernel
theorem kD_giveBack_d57 : decode prog_3_method_8_code 57 = .ok (.iinc 5 1, 3) := by decide +kernel
theorem kD_giveBack_d60 : decode prog_3_method_8_code 60 = .ok (.goto (-55), 3) := by decide +kernel
theorem kD_giveBack_d63 : decode prog_3_method_8_code 63 = .ok (.aload_n 0, 1) := by decide +kernel
theorem kD_giveBack_d64 : decode prog_3_method_8_code 64 = .ok (.getfield 23, 3) := by decide +kernel
theorem kD_giveBack_d67 : decode prog_3_method_8_code 67 = .ok (.iload_n 1, 1) := by decide +kernel
theorem kD_giveBack_d68 : decode prog_3_method_8_code 68 = .ok (.iload_n 2, 1) := by decide +kernel
theorem kD_giveBack_d69 : decode prog_3_method_8_code 69 = .ok (.iadd, 1) := by decide +kernel
theorem kD_giveBack_d70 : decode prog_3_method_8_code 70 = .ok (.dup2, 1) := by decide +kernel
theorem kD_giveBack_d71 : decode prog_3_method_8_code 71 = .ok (.iaload, 1) := by decide +kernel
theorem kD_giveBack_d72 : decode prog_3_method_8_code 72 = .ok (.lload_n 3, 1) := by decide +kernel
theorem kD_giveBack_d73 : decode prog_3_method_8_code 73 = .ok (.l2i, 1) := by decide +kernel
theorem kD_giveBack_d74 : decode prog_3_method_8_code 74 = .ok (.iadd, 1) := by decide +kernel
theorem kD_giveBack_d75 : decode prog_3_method_8_code 75 = .ok (.iastore, 1) := by decide +kernel
theorem kD_giveBack_d76 : decode prog_3_method_8_code 76 = .ok (.return_, 1) := by decide +kernel
