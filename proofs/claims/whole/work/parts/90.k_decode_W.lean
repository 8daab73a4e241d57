/-! decode rows of Whole -/
theorem kW_init_d0 : decode prog_9_method_1_code 0 = .ok (.aload_n 0, 1) := by decide +kernel
theorem kW_init_d1 : decode prog_9_method_1_code 1 = .ok (.invokespecial 3, 3) := by decide +kernel
theorem kW_init_d4 : decode prog_9_method_1_code 4 = .ok (.aload_n 0, 1) := by decide +kernel
theorem kW_init_d5 : decode prog_9_method_1_code 5 = .ok (.iload_n 1, 1) := by decide +kernel
theorem kW_init_d6 : decode prog_9_method_1_code 6 = .ok (.newarray .int, 2) := by decide +kernel
theorem kW_init_d8 : decode prog_9_method_1_code 8 = .ok (.putfield 9, 3) := by decide +kernel
theorem kW_init_d11 : decode prog_9_method_1_code 11 = .ok (.return_, 1) := by decide +kernel
theorem kW_putOne_d0 : decode prog_9_method_4_code 0 = .ok (.aload_n 0, 1) := by decide +kernel
theorem kW_putOne_d1 : decode prog_9_method_4_code 1 = .ok (.getfield 9, 3) := by decide +kernel
theorem kW_putOne_d4 : decode prog_9_method_4_code 4 = .ok (.iconst 0, 1) := by decide +kernel
theorem kW_putOne_d5 : decode prog_9_method_4_code 5 = .ok (.iconst 1, 1) := by decide +kernel
theorem kW_putOne_d6 : decode prog_9_method_4_code 6 = .ok (.iastore, 1) := by decide +kernel
theorem kW_putOne_d7 : decode prog_9_method_4_code 7 = .ok (.aload_n 0, 1) := by decide +kernel
theorem kW_putOne_d8 : decode prog_9_method_4_code 8 = .ok (.iconst 1, 1) := by decide +kernel
theorem kW_putOne_d9 : decode prog_9_method_4_code 9 = .ok (.putfield 22, 3) := by decide +kernel
theorem kW_putOne_d12 : decode prog_9_method_4_code 12 = .ok (.aload_n 0, 1) := by decide +kernel
theorem kW_putOne_d13 : decode prog_9_method_4_code 13 = .ok (.iconst 0, 1) := by decide +kernel
theorem kW_putOne_d14 : decode prog_9_method_4_code 14 = .ok (.putfield 26, 3) := by decide +kernel
theorem kW_putOne_d17 : decode prog_9_method_4_code 17 = .ok (.return_, 1) := by decide +kernel
theorem kW_putZero_d0 : decode prog_9_method_3_code 0 = .ok (.aload_n 0, 1) := by decide +kernel
theorem kW_putZero_d1 : decode prog_9_method_3_code 1 = .ok (.iconst 0, 1) := by decide +kernel
theorem kW_putZero_d2 : decode prog_9_method_3_code 2 = .ok (.putfield 22, 3) := by decide +kernel
theorem kW_putZero_d5 : decode prog_9_method_3_code 5 = .ok (.aload_n 0, 1) := by decide +kernel
theorem kW_putZero_d6 : decode prog_9_method_3_code 6 = .ok (.iconst 0, 1) := by decide +kernel
theorem kW_putZero_d7 : decode prog_9_method_3_code 7 = .ok (.putfield 26, 3) := by decide +kernel
theorem kW_putZero_d10 : decode prog_9_method_3_code 10 = .ok (.return_, 1) := by decide +kernel
theorem kW_copy_d0 : decode prog_9_method_6_code 0 = .ok (.aload_n 0, 1) := by decide +kernel
theorem kW_copy_d1 : decode prog_9_method_6_code 1 = .ok (.aload_n 1, 1) := by decide +kernel
theorem kW_copy_d2 : decode prog_9_method_6_code 2 = .ok (.getfield 22, 3) := by decide +kernel
theorem kW_copy_d5 : decode prog_9_method_6_code 5 = .ok (.invokevirtual 33, 3) := by decide +kernel
theorem kW_copy_d8 : decode prog_9_method_6_code 8 = .ok (.aload_n 1, 1) := by decide +kernel
theorem kW_copy_d9 : decode prog_9_method_6_code 9 = .ok (.getfield 9, 3) := by decide +kernel
theorem kW_copy_d12 : decode prog_9_method_6_code 12 = .ok (.iconst 0, 1) := by decide +kernel
theorem kW_copy_d13 : decode prog_9_method_6_code 13 = .ok (.aload_n 0, 1) := by decide +kernel
theorem kW_copy_d14 : decode prog_9_method_6_code 14 = .ok (.getfield 9, 3) := by decide +kernel
theorem kW_copy_d17 : decode prog_9_method_6_code 17 = .ok (.iconst 0, 1) := by decide +kernel
theorem kW_copy_d18 : decode prog_9_method_6_code 18 = .ok (.aload_n 1, 1) := by decide +kernel
theorem kW_copy_d19 : decode prog_9_method_6_code 19 = .ok (.getfield 22, 3) := by decide +kernel
theorem kW_copy_d22 : decode prog_9_method_6_code 22 = .ok (.invokestatic 37, 3) := by decide +kernel
theorem kW_copy_d25 : decode prog_9_method_6_code 25 = .ok (.aload_n 0, 1) := by decide +kernel
theorem kW_copy_d26 : decode prog_9_method_6_code 26 = .ok (.aload_n 1, 1) := by decide +kernel
theorem kW_copy_d27 : decode prog_9_method_6_code 27 = .ok (.getfield 22, 3) := by decide +kernel
theorem kW_copy_d30 : decode prog_9_method_6_code 30 = .ok (.putfield 22, 3) := by decide +kernel
theorem kW_copy_d33 : decode prog_9_method_6_code 33 = .ok (.aload_n 0, 1) := by decide +kernel
theorem kW_copy_d34 : decode prog_9_method_6_code 34 = .ok (.aload_n 1, 1) := by decide +kernel
theorem kW_copy_d35 : decode prog_9_method_6_code 35 = .ok (.getfield 26, 3) := by decide +kernel
theorem kW_copy_d38 : decode prog_9_method_6_code 38 = .ok (.putfield 26, 3) := by decide +kernel
theorem kW_copy_d41 : decode prog_9_method_6_code 41 = .ok (.return_, 1) := by decide +kernel
theorem kW_needRoom_d0 : decode prog_9_method_2_code 0 = .ok (.iload_n 1, 1) := by decide +kernel
theorem kW_needRoom_d1 : decode prog_9_method_2_code 1 = .ok (.aload_n 0, 1) := by decide +kernel
theorem kW_needRoom_d2 : decode prog_9_method_2_code 2 = .ok (.getfield 9, 3) := by decide +kernel
theorem kW_needRoom_d5 : decode prog_9_method_2_code 5 = .ok (.arraylength, 1) := by decide +kernel
theorem kW_needRoom_d6 : decode prog_9_method_2_code 6 = .ok (.if_icmp .le 13, 3) := by decide +kernel
theorem kW_needRoom_d9 : decode prog_9_method_2_code 9 = .ok (.new 15, 3) := by decide +kernel
theorem kW_needRoom_d12 : decode prog_9_method_2_code 12 = .ok (.dup, 1) := by decide +kernel
theorem kW_needRoom_d13 : decode prog_9_method_2_code 13 = .ok (.ldc 17, 2) := by decide +kernel
theorem kW_needRoom_d15 : decode prog_9_method_2_code 15 = .ok (.invokespecial 19, 3) := by decide +kernel
theorem kW_needRoom_d18 : decode prog_9_method_2_code 18 = .ok (.athrow, 1) := by decide +kernel
theorem kW_needRoom_d19 : decode prog_9_method_2_code 19 = .ok (.return_, 1) := by decide +kernel
theorem kW_negate_d0 : decode prog_9_method_8_code 0 = .ok (.aload_n 0, 1) := by decide +kernel
theorem kW_negate_d1 : decode prog_9_method_8_code 1 = .ok (.aload_n 0, 1) := by decide +kernel
theorem kW_negate_d2 : decode prog_9_method_8_code 2 = .ok (.getfield 22, 3) := by decide +kernel
theorem kW_negate_d5 : decode prog_9_method_8_code 5 = .ok (.ifCond .le 14, 3) := by decide +kernel
theorem kW_negate_d8 : decode prog_9_method_8_code 8 = .ok (.aload_n 0, 1) := by decide +kernel
theorem kW_negate_d9 : decode prog_9_method_8_code 9 = .ok (.getfield 26, 3) := by decide +kernel
theorem kW_negate_d12 : decode prog_9_method_8_code 12 = .ok (.ifCond .ne 7, 3) := by decide +kernel
theorem kW_negate_d15 : decode prog_9_method_8_code 15 = .ok (.iconst 1, 1) := by decide +kernel
theorem kW_negate_d16 : decode prog_9_method_8_code 16 = .ok (.goto 4, 3) := by decide +kernel
theorem kW_negate_d19 : decode prog_9_method_8_code 19 = .ok (.iconst 0, 1) := by decide +kernel
theorem kW_negate_d20 : decode prog_9_method_8_code 20 = .ok (.putfield 26, 3) := by decide +kernel
theorem kW_negate_d23 : decode prog_9_method_8_code 23 = .ok (.return_, 1) := by decide +kernel
theorem kW_isOne_d0 : decode prog_9_method_9_code 0 = .ok (.aload_n 0, 1) := by decide +kernel
theorem kW_isOne_d1 : decode prog_9_method_9_code 1 = .ok (.getfield 22, 3) := by decide +kernel
theorem kW_isOne_d4 : decode prog_9_method_9_code 4 = .ok (.iconst 1, 1) := by decide +kernel
theorem kW_isOne_d5 : decode prog_9_method_9_code 5 = .ok (.if_icmp .ne 24, 3) := by decide +kernel
theorem kW_isOne_d8 : decode prog_9_method_9_code 8 = .ok (.aload_n 0, 1) := by decide +kernel
theorem kW_isOne_d9 : decode prog_9_method_9_code 9 = .ok (.getfield 9, 3) := by decide +kernel
theorem kW_isOne_d12 : decode prog_9_method_9_code 12 = .ok (.iconst 0, 1) := by decide +kernel
theorem kW_isOne_d13 : decode prog_9_method_9_code 13 = .ok (.iaload, 1) := by decide +kernel
theorem kW_isOne_d14 : decode prog_9_method_9_code 14 = .ok (.iconst 1, 1) := by decide +kernel
theorem kW_isOne_d15 : decode prog_9_method_9_code 15 = .ok (.if_icmp .ne 14, 3) := by decide +kernel
theorem kW_isOne_d18 : decode prog_9_method_9_code 18 = .ok (.aload_n 0, 1) := by decide +kernel
theorem kW_isOne_d19 : decode prog_9_method_9_code 19 = .ok (.getfield 26, 3) := by decide +kernel
theorem kW_isOne_d22 : decode prog_9_method_9_code 22 = .ok (.ifCond .ne 7, 3) := by decide +kernel
theorem kW_isOne_d25 : decode prog_9_method_9_code 25 = .ok (.iconst 1, 1) := by decide +kernel
theorem kW_isOne_d26 : decode prog_9_method_9_code 26 = .ok (.goto 4, 3) := by decide +kernel
theorem kW_isOne_d29 : decode prog_9_method_9_code 29 = .ok (.iconst 0, 1) := by decide +kernel
theorem kW_isOne_d30 : decode prog_9_method_9_code 30 = .ok (.ireturn, 1) := by decide +kernel
theorem kW_compareSizes_d0 : decode prog_9_method_14_code 0 = .ok (.aload_n 0, 1) := by decide +kernel
theorem kW_compareSizes_d1 : decode prog_9_method_14_code 1 = .ok (.getfield 22, 3) := by decide +kernel
theorem kW_compareSizes_d4 : decode prog_9_method_14_code 4 = .ok (.aload_n 1, 1) := by decide +kernel
theorem kW_compareSizes_d5 : decode prog_9_method_14_code 5 = .ok (.getfield 22, 3) := by decide +kernel
theorem kW_compareSizes_d8 : decode prog_9_method_14_code 8 = .ok (.if_icmp .eq 20, 3) := by decide +kernel
theorem kW_compareSizes_d11 : decode prog_9_method_14_code 11 = .ok (.aload_n 0, 1) := by decide +kernel
theorem kW_compareSizes_d12 : decode prog_9_method_14_code 12 = .ok (.getfield 22, 3) := by decide +kernel
theorem kW_compareSizes_d15 : decode prog_9_method_14_code 15 = .ok (.aload_n 1, 1) := by decide +kernel
theorem kW_compareSizes_d16 : decode prog_9_method_14_code 16 = .ok (.getfield 22, 3) := by decide +kernel
theorem kW_compareSizes_d19 : decode prog_9_method_14_code 19 = .ok (.if_icmp .ge 7, 3) := by decide +kernel
theorem kW_compareSizes_d22 : decode prog_9_method_14_code 22 = .ok (.iconst (-1), 1) := by decide +kernel
theorem kW_compareSizes_d23 : decode prog_9_method_14_code 23 = .ok (.goto 4, 3) := by decide +kernel
theorem kW_compareSizes_d26 : decode prog_9_method_14_code 26 = .ok (.iconst 1, 1) := by decide +kernel
theorem kW_compareSizes_d27 : decode prog_9_method_14_code 27 = .ok (.ireturn, 1) := by decide +kernel
theorem kW_compareSizes_d28 : decode prog_9_method_14_code 28 = .ok (.aload_n 0, 1) := by decide +kernel
theorem kW_compareSizes_d29 : decode prog_9_method_14_code 29 = .ok (.getfield 22, 3) := by decide +kernel
theorem kW_compareSizes_d32 : decode prog_9_method_14_code 32 = .ok (.iconst 1, 1) := by decide +kernel
theorem kW_compareSizes_d33 : decode prog_9_method_14_code 33 = .ok (.isub, 1) := by decide +kernel
theorem kW_compareSizes_d34 : decode prog_9_method_14_code 34 = .ok (.istore_n 2, 1) := by decide +kernel
theorem kW_compareSizes_d35 : decode prog_9_method_14_code 35 = .ok (.iload_n 2, 1) := by decide +kernel
theorem kW_compareSizes_d36 : decode prog_9_method_14_code 36 = .ok (.ifCond .lt 56, 3) := by decide +kernel
theorem kW_compareSizes_d39 : decode prog_9_method_14_code 39 = .ok (.aload_n 0, 1) := by decide +kernel
theorem kW_compareSizes_d40 : decode prog_9_method_14_code 40 = .ok (.getfield 9, 3) := by decide +kernel
theorem kW_compareSizes_d43 : decode prog_9_method_14_code 43 = .ok (.iload_n 2, 1) := by decide +kernel
theorem kW_compareSizes_d44 : decode prog_9_method_14_code 44 = .ok (.iaload, 1) := by decide +kernel
theorem kW_compareSizes_d45 : decode prog_9_method_14_code 45 = .ok (.aload_n 1, 1) := by decide +kernel
theorem kW_compareSizes_d46 : decode prog_9_method_14_code 46 = .ok (.getfield 9, 3) := by decide +kernel
theorem kW_compareSizes_d49 : decode prog_9_method_14_code 49 = .ok (.iload_n 2, 1) := by decide +kernel
theorem kW_compareSizes_d50 : decode prog_9_method_14_code 50 = .ok (.iaload, 1) := by decide +kernel
theorem kW_compareSizes_d51 : decode prog_9_method_14_code 51 = .ok (.if_icmp .eq 35, 3) := by decide +kernel
theorem kW_compareSizes_d54 : decode prog_9_method_14_code 54 = .ok (.aload_n 0, 1) := by decide +kernel
theorem kW_compareSizes_d55 : decode prog_9_method_14_code 55 = .ok (.getfield 9, 3) := by decide +kernel
theorem kW_compareSizes_d58 : decode prog_9_method_14_code 58 = .ok (.iload_n 2, 1) := by decide +kernel
theorem kW_compareSizes_d59 : decode prog_9_method_14_code 59 = .ok (.iaload, 1) := by decide +kernel
theorem kW_compareSizes_d60 : decode prog_9_method_14_code 60 = .ok (.i2l, 1) := by decide +kernel
theorem kW_compareSizes_d61 : decode prog_9_method_14_code 61 = .ok (.ldc2_w 50, 3) := by decide +kernel
theorem kW_compareSizes_d64 : decode prog_9_method_14_code 64 = .ok (.land, 1) := by decide +kernel
theorem kW_compareSizes_d65 : decode prog_9_method_14_code 65 = .ok (.aload_n 1, 1) := by decide +kernel
theorem kW_compareSizes_d66 : decode prog_9_method_14_code 66 = .ok (.getfield 9, 3) := by decide +kernel
theorem kW_compareSizes_d69 : decode prog_9_method_14_code 69 = .ok (.iload_n 2, 1) := by decide +kernel
theorem kW_compareSizes_d70 : decode prog_9_method_14_code 70 = .ok (.iaload, 1) := by decide +kernel
theorem kW_compareSizes_d71 : decode prog_9_method_14_code 71 = .ok (.i2l, 1) := by decide +kernel
theorem kW_compareSizes_d72 : decode prog_9_method_14_code 72 = .ok (.ldc2_w 50, 3) := by decide +kernel
theorem kW_compareSizes_d75 : decode prog_9_method_14_code 75 = .ok (.land, 1) := by decide +kernel
theorem kW_compareSizes_d76 : decode prog_9_method_14_code 76 = .ok (.lcmp, 1) := by decide +kernel
theorem kW_compareSizes_d77 : decode prog_9_method_14_code 77 = .ok (.ifCond .ge 7, 3) := by decide +kernel
theorem kW_compareSizes_d80 : decode prog_9_method_14_code 80 = .ok (.iconst (-1), 1) := by decide +kernel
theorem kW_compareSizes_d81 : decode prog_9_method_14_code 81 = .ok (.goto 4, 3) := by decide +kernel
theorem kW_compareSizes_d84 : decode prog_9_method_14_code 84 = .ok (.iconst 1, 1) := by decide +kernel
theorem kW_compareSizes_d85 : decode prog_9_method_14_code 85 = .ok (.ireturn, 1) := by decide +kernel
theorem kW_compareSizes_d86 : decode prog_9_method_14_code 86 = .ok (.iinc 2 (-1), 3) := by decide +kernel
theorem kW_compareSizes_d89 : decode prog_9_method_14_code 89 = .ok (.goto (-54), 3) := by decide +kernel
theorem kW_compareSizes_d92 : decode prog_9_method_14_code 92 = .ok (.iconst 0, 1) := by decide +kernel
theorem kW_compareSizes_d93 : decode prog_9_method_14_code 93 = .ok (.ireturn, 1) := by decide +kernel
theorem kW_bits_d0 : decode prog_9_method_11_code 0 = .ok (.aload_n 0, 1) := by decide +kernel
theorem kW_bits_d1 : decode prog_9_method_11_code 1 = .ok (.getfield 22, 3) := by decide +kernel
theorem kW_bits_d4 : decode prog_9_method_11_code 4 = .ok (.ifCond .ne 7, 3) := by decide +kernel
theorem kW_bits_d7 : decode prog_9_method_11_code 7 = .ok (.iconst 0, 1) := by decide +kernel
theorem kW_bits_d8 : decode prog_9_method_11_code 8 = .ok (.goto 27, 3) := by decide +kernel
theorem kW_bits_d11 : decode prog_9_method_11_code 11 = .ok (.bipush 32, 2) := by decide +kernel
theorem kW_bits_d13 : decode prog_9_method_11_code 13 = .ok (.aload_n 0, 1) := by decide +kernel
theorem kW_bits_d14 : decode prog_9_method_11_code 14 = .ok (.getfield 22, 3) := by decide +kernel
theorem kW_bits_d17 : decode prog_9_method_11_code 17 = .ok (.iconst 1, 1) := by decide +kernel
theorem kW_bits_d18 : decode prog_9_method_11_code 18 = .ok (.isub, 1) := by decide +kernel
theorem kW_bits_d19 : decode prog_9_method_11_code 19 = .ok (.imul, 1) := by decide +kernel
theorem kW_bits_d20 : decode prog_9_method_11_code 20 = .ok (.aload_n 0, 1) := by decide +kernel
theorem kW_bits_d21 : decode prog_9_method_11_code 21 = .ok (.getfield 9, 3) := by decide +kernel
theorem kW_bits_d24 : decode prog_9_method_11_code 24 = .ok (.aload_n 0, 1) := by decide +kernel
theorem kW_bits_d25 : decode prog_9_method_11_code 25 = .ok (.getfield 22, 3) := by decide +kernel
theorem kW_bits_d28 : decode prog_9_method_11_code 28 = .ok (.iconst 1, 1) := by decide +kernel
theorem kW_bits_d29 : decode prog_9_method_11_code 29 = .ok (.isub, 1) := by decide +kernel
theorem kW_bits_d30 : decode prog_9_method_11_code 30 = .ok (.iaload, 1) := by decide +kernel
theorem kW_bits_d31 : decode prog_9_method_11_code 31 = .ok (.invokestatic 43, 3) := by decide +kernel
theorem kW_bits_d34 : decode prog_9_method_11_code 34 = .ok (.iadd, 1) := by decide +kernel
theorem kW_bits_d35 : decode prog_9_method_11_code 35 = .ok (.ireturn, 1) := by decide +kernel
theorem kW_bitsOf_d0 : decode prog_9_method_12_code 0 = .ok (.iconst 0, 1) := by decide +kernel
theorem kW_bitsOf_d1 : decode prog_9_method_12_code 1 = .ok (.istore_n 1, 1) := by decide +kernel
theorem kW_bitsOf_d2 : decode prog_9_method_12_code 2 = .ok (.iload_n 0, 1) := by decide +kernel
theorem kW_bitsOf_d3 : decode prog_9_method_12_code 3 = .ok (.istore_n 2, 1) := by decide +kernel
theorem kW_bitsOf_d4 : decode prog_9_method_12_code 4 = .ok (.bipush 16, 2) := by decide +kernel
theorem kW_bitsOf_d6 : decode prog_9_method_12_code 6 = .ok (.istore_n 3, 1) := by decide +kernel
theorem kW_bitsOf_d7 : decode prog_9_method_12_code 7 = .ok (.iload_n 3, 1) := by decide +kernel
theorem kW_bitsOf_d8 : decode prog_9_method_12_code 8 = .ok (.ifCond .le 24, 3) := by decide +kernel
theorem kW_bitsOf_d11 : decode prog_9_method_12_code 11 = .ok (.iload_n 2, 1) := by decide +kernel
theorem kW_bitsOf_d12 : decode prog_9_method_12_code 12 = .ok (.iload_n 3, 1) := by decide +kernel
theorem kW_bitsOf_d13 : decode prog_9_method_12_code 13 = .ok (.iushr, 1) := by decide +kernel
theorem kW_bitsOf_d14 : decode prog_9_method_12_code 14 = .ok (.ifCond .eq 11, 3) := by decide +kernel
theorem kW_bitsOf_d17 : decode prog_9_method_12_code 17 = .ok (.iload_n 1, 1) := by decide +kernel
theorem kW_bitsOf_d18 : decode prog_9_method_12_code 18 = .ok (.iload_n 3, 1) := by decide +kernel
theorem kW_bitsOf_d19 : decode prog_9_method_12_code 19 = .ok (.iadd, 1) := by decide +kernel
theorem kW_bitsOf_d20 : decode prog_9_method_12_code 20 = .ok (.istore_n 1, 1) := by decide +kernel
theorem kW_bitsOf_d21 : decode prog_9_method_12_code 21 = .ok (.iload_n 2, 1) := by decide +kernel
theorem kW_bitsOf_d22 : decode prog_9_method_12_code 22 = .ok (.iload_n 3, 1) := by decide +kernel
theorem kW_bitsOf_d23 : decode prog_9_method_12_code 23 = .ok (.iushr, 1) := by decide +kernel
theorem kW_bitsOf_d24 : decode prog_9_method_12_code 24 = .ok (.istore_n 2, 1) := by decide +kernel
theorem kW_bitsOf_d25 : decode prog_9_method_12_code 25 = .ok (.iload_n 3, 1) := by decide +kernel
theorem kW_bitsOf_d26 : decode prog_9_method_12_code 26 = .ok (.iconst 1, 1) := by decide +kernel
theorem kW_bitsOf_d27 : decode prog_9_method_12_code 27 = .ok (.ishr, 1) := by decide +kernel
theorem kW_bitsOf_d28 : decode prog_9_method_12_code 28 = .ok (.istore_n 3, 1) := by decide +kernel
theorem kW_bitsOf_d29 : decode prog_9_method_12_code 29 = .ok (.goto (-22), 3) := by decide +kernel
theorem kW_bitsOf_d32 : decode prog_9_method_12_code 32 = .ok (.iload_n 1, 1) := by decide +kernel
theorem kW_bitsOf_d33 : decode prog_9_method_12_code 33 = .ok (.iload_n 2, 1) := by decide +kernel
theorem kW_bitsOf_d34 : decode prog_9_method_12_code 34 = .ok (.iadd, 1) := by decide +kernel
theorem kW_bitsOf_d35 : decode prog_9_method_12_code 35 = .ok (.ireturn, 1) := by decide +kernel
theorem kW_bitsFrom_d0 : decode prog_9_method_13_code 0 = .ok (.iload_n 1, 1) := by decide +kernel
theorem kW_bitsFrom_d1 : decode prog_9_method_13_code 1 = .ok (.iconst 5, 1) := by decide +kernel
theorem kW_bitsFrom_d2 : decode prog_9_method_13_code 2 = .ok (.ishr, 1) := by decide +kernel
theorem kW_bitsFrom_d3 : decode prog_9_method_13_code 3 = .ok (.istore_n 2, 1) := by decide +kernel
theorem kW_bitsFrom_d4 : decode prog_9_method_13_code 4 = .ok (.iload_n 1, 1) := by decide +kernel
theorem kW_bitsFrom_d5 : decode prog_9_method_13_code 5 = .ok (.bipush 31, 2) := by decide +kernel
theorem kW_bitsFrom_d7 : decode prog_9_method_13_code 7 = .ok (.iand, 1) := by decide +kernel
theorem kW_bitsFrom_d8 : decode prog_9_method_13_code 8 = .ok (.istore_n 3, 1) := by decide +kernel
theorem kW_bitsFrom_d9 : decode prog_9_method_13_code 9 = .ok (.aload_n 0, 1) := by decide +kernel
theorem kW_bitsFrom_d10 : decode prog_9_method_13_code 10 = .ok (.iload_n 2, 1) := by decide +kernel
theorem kW_bitsFrom_d11 : decode prog_9_method_13_code 11 = .ok (.invokevirtual 47, 3) := by decide +kernel
theorem kW_bitsFrom_d14 : decode prog_9_method_13_code 14 = .ok (.i2l, 1) := by decide +kernel
theorem kW_bitsFrom_d15 : decode prog_9_method_13_code 15 = .ok (.ldc2_w 50, 3) := by decide +kernel
theorem kW_bitsFrom_d18 : decode prog_9_method_13_code 18 = .ok (.land, 1) := by decide +kernel
theorem kW_bitsFrom_d19 : decode prog_9_method_13_code 19 = .ok (.aload_n 0, 1) := by decide +kernel
theorem kW_bitsFrom_d20 : decode prog_9_method_13_code 20 = .ok (.iload_n 2, 1) := by decide +kernel
theorem kW_bitsFrom_d21 : decode prog_9_method_13_code 21 = .ok (.iconst 1, 1) := by decide +kernel
theorem kW_bitsFrom_d22 : decode prog_9_method_13_code 22 = .ok (.iadd, 1) := by decide +kernel
theorem kW_bitsFrom_d23 : decode prog_9_method_13_code 23 = .ok (.invokevirtual 47, 3) := by decide +kernel
theorem kW_bitsFrom_d26 : decode prog_9_method_13_code 26 = .ok (.i2l, 1) := by decide +kernel
theorem kW_bitsFrom_d27 : decode prog_9_method_13_code 27 = .ok (.bipush 32, 2) := by decide +kernel
theorem kW_bitsFrom_d29 : decode prog_9_method_13_code 29 = .ok (.lshl, 1) := by decide +kernel
theorem kW_bitsFrom_d30 : decode prog_9_method_13_code 30 = .ok (.lor, 1) := by decide +kernel
theorem kW_bitsFrom_d31 : decode prog_9_method_13_code 31 = .ok (.lstore 4, 2) := by decide +kernel
theorem kW_bitsFrom_d33 : decode prog_9_method_13_code 33 = .ok (.iload_n 3, 1) := by decide +kernel
theorem kW_bitsFrom_d34 : decode prog_9_method_13_code 34 = .ok (.ifCond .ne 6, 3) := by decide +kernel
theorem kW_bitsFrom_d37 : decode prog_9_method_13_code 37 = .ok (.lload 4, 2) := by decide +kernel
theorem kW_bitsFrom_d39 : decode prog_9_method_13_code 39 = .ok (.lreturn, 1) := by decide +kernel
theorem kW_bitsFrom_d40 : decode prog_9_method_13_code 40 = .ok (.lload 4, 2) := by decide +kernel
theorem kW_bitsFrom_d42 : decode prog_9_method_13_code 42 = .ok (.iload_n 3, 1) := by decide +kernel
theorem kW_bitsFrom_d43 : decode prog_9_method_13_code 43 = .ok (.lushr, 1) := by decide +kernel
theorem kW_bitsFrom_d44 : decode prog_9_method_13_code 44 = .ok (.aload_n 0, 1) := by decide +kernel
theorem kW_bitsFrom_d45 : decode prog_9_method_13_code 45 = .ok (.iload_n 2, 1) := by decide +kernel
theorem kW_bitsFrom_d46 : decode prog_9_method_13_code 46 = .ok (.iconst 2, 1) := by decide +kernel
theorem kW_bitsFrom_d47 : decode prog_9_method_13_code 47 = .ok (.iadd, 1) := by decide +kernel
theorem kW_bitsFrom_d48 : decode prog_9_method_13_code 48 = .ok (.invokevirtual 47, 3) := by decide +kernel
theorem kW_bitsFrom_d51 : decode prog_9_method_13_code 51 = .ok (.i2l, 1) := by decide +kernel
theorem kW_bitsFrom_d52 : decode prog_9_method_13_code 52 = .ok (.bipush 64, 2) := by decide +kernel
theorem kW_bitsFrom_d54 : decode prog_9_method_13_code 54 = .ok (.iload_n 3, 1) := by decide +kernel
theorem kW_bitsFrom_d55 : decode prog_9_method_13_code 55 = .ok (.isub, 1) := by decide +kernel
theorem kW_bitsFrom_d56 : decode prog_9_method_13_code 56 = .ok (.lshl, 1) := by decide +kernel
theorem kW_bitsFrom_d57 : decode prog_9_method_13_code 57 = .ok (.lor, 1) := by decide +kernel
theorem kW_bitsFrom_d58 : decode prog_9_method_13_code 58 = .ok (.lreturn, 1) := by decide +kernel
theorem kW_limbAt_d0 : decode prog_9_method_10_code 0 = .ok (.iload_n 1, 1) := by decide +kernel
theorem kW_limbAt_d1 : decode prog_9_method_10_code 1 = .ok (.aload_n 0, 1) := by decide +kernel
theorem kW_limbAt_d2 : decode prog_9_method_10_code 2 = .ok (.getfield 22, 3) := by decide +kernel
theorem kW_limbAt_d5 : decode prog_9_method_10_code 5 = .ok (.if_icmp .ge 12, 3) := by decide +kernel
theorem kW_limbAt_d8 : decode prog_9_method_10_code 8 = .ok (.aload_n 0, 1) := by decide +kernel
theorem kW_limbAt_d9 : decode prog_9_method_10_code 9 = .ok (.getfield 9, 3) := by decide +kernel
theorem kW_limbAt_d12 : decode prog_9_method_10_code 12 = .ok (.iload_n 1, 1) := by decide +kernel
theorem kW_limbAt_d13 : decode prog_9_method_10_code 13 = .ok (.iaload, 1) := by decide +kernel
theorem kW_limbAt_d14 : decode prog_9_method_10_code 14 = .ok (.goto 4, 3) := by decide +kernel
theorem kW_limbAt_d17 : decode prog_9_method_10_code 17 = .ok (.iconst 0, 1) := by decide +kernel
theorem kW_limbAt_d18 : decode prog_9_method_10_code 18 = .ok (.ireturn, 1) := by decide +kernel
theorem kW_trim_d0 : decode prog_9_method_7_code 0 = .ok (.aload_n 0, 1) := by decide +kernel
theorem kW_trim_d1 : decode prog_9_method_7_code 1 = .ok (.getfield 22, 3) := by decide +kernel
theorem kW_trim_d4 : decode prog_9_method_7_code 4 = .ok (.ifCond .le 30, 3) := by decide +kernel
theorem kW_trim_d7 : decode prog_9_method_7_code 7 = .ok (.aload_n 0, 1) := by decide +kernel
theorem kW_trim_d8 : decode prog_9_method_7_code 8 = .ok (.getfield 9, 3) := by decide +kernel
theorem kW_trim_d11 : decode prog_9_method_7_code 11 = .ok (.aload_n 0, 1) := by decide +kernel
theorem kW_trim_d12 : decode prog_9_method_7_code 12 = .ok (.getfield 22, 3) := by decide +kernel
theorem kW_trim_d15 : decode prog_9_method_7_code 15 = .ok (.iconst 1, 1) := by decide +kernel
theorem kW_trim_d16 : decode prog_9_method_7_code 16 = .ok (.isub, 1) := by decide +kernel
theorem kW_trim_d17 : decode prog_9_method_7_code 17 = .ok (.iaload, 1) := by decide +kernel
theorem kW_trim_d18 : decode prog_9_method_7_code 18 = .ok (.ifCond .ne 16, 3) := by decide +kernel
theorem kW_trim_d21 : decode prog_9_method_7_code 21 = .ok (.aload_n 0, 1) := by decide +kernel
theorem kW_trim_d22 : decode prog_9_method_7_code 22 = .ok (.dup, 1) := by decide +kernel
theorem kW_trim_d23 : decode prog_9_method_7_code 23 = .ok (.getfield 22, 3) := by decide +kernel
theorem kW_trim_d26 : decode prog_9_method_7_code 26 = .ok (.iconst 1, 1) := by decide +kernel
theorem kW_trim_d27 : decode prog_9_method_7_code 27 = .ok (.isub, 1) := by decide +kernel
theorem kW_trim_d28 : decode prog_9_method_7_code 28 = .ok (.putfield 22, 3) := by decide +kernel
theorem kW_trim_d31 : decode prog_9_method_7_code 31 = .ok (.goto (-31), 3) := by decide +kernel
theorem kW_trim_d34 : decode prog_9_method_7_code 34 = .ok (.aload_n 0, 1) := by decide +kernel
theorem kW_trim_d35 : decode prog_9_method_7_code 35 = .ok (.getfield 22, 3) := by decide +kernel
theorem kW_trim_d38 : decode prog_9_method_7_code 38 = .ok (.ifCond .ne 8, 3) := by decide +kernel
theorem kW_trim_d41 : decode prog_9_method_7_code 41 = .ok (.aload_n 0, 1) := by decide +kernel
theorem kW_trim_d42 : decode prog_9_method_7_code 42 = .ok (.iconst 0, 1) := by decide +kernel
theorem kW_trim_d43 : decode prog_9_method_7_code 43 = .ok (.putfield 26, 3) := by decide +kernel
theorem kW_trim_d46 : decode prog_9_method_7_code 46 = .ok (.return_, 1) := by decide +kernel
theorem kW_product_d0 : decode prog_9_method_19_code 0 = .ok (.aload_n 1, 1) := by decide +kernel
theorem kW_product_d1 : decode prog_9_method_19_code 1 = .ok (.getfield 22, 3) := by decide +kernel
theorem kW_product_d4 : decode prog_9_method_19_code 4 = .ok (.ifCond .eq 10, 3) := by decide +kernel
theorem kW_product_d7 : decode prog_9_method_19_code 7 = .ok (.aload_n 2, 1) := by decide +kernel
theorem kW_product_d8 : decode prog_9_method_19_code 8 = .ok (.getfield 22, 3) := by decide +kernel
theorem kW_product_d11 : decode prog_9_method_19_code 11 = .ok (.ifCond .ne 8, 3) := by decide +kernel
theorem kW_product_d14 : decode prog_9_method_19_code 14 = .ok (.aload_n 0, 1) := by decide +kernel
theorem kW_product_d15 : decode prog_9_method_19_code 15 = .ok (.invokevirtual 63, 3) := by decide +kernel
theorem kW_product_d18 : decode prog_9_method_19_code 18 = .ok (.return_, 1) := by decide +kernel
theorem kW_product_d19 : decode prog_9_method_19_code 19 = .ok (.aload_n 2, 1) := by decide +kernel
theorem kW_product_d20 : decode prog_9_method_19_code 20 = .ok (.getfield 22, 3) := by decide +kernel
theorem kW_product_d23 : decode prog_9_method_19_code 23 = .ok (.istore_n 3, 1) := by decide +kernel
theorem kW_product_d24 : decode prog_9_method_19_code 24 = .ok (.aload_n 0, 1) := by decide +kernel
theorem kW_product_d25 : decode prog_9_method_19_code 25 = .ok (.aload_n 1, 1) := by decide +kernel
theorem kW_product_d26 : decode prog_9_method_19_code 26 = .ok (.getfield 22, 3) := by decide +kernel
theorem kW_product_d29 : decode prog_9_method_19_code 29 = .ok (.iload_n 3, 1) := by decide +kernel
theorem kW_product_d30 : decode prog_9_method_19_code 30 = .ok (.iadd, 1) := by decide +kernel
theorem kW_product_d31 : decode prog_9_method_19_code 31 = .ok (.invokevirtual 33, 3) := by decide +kernel
theorem kW_product_d34 : decode prog_9_method_19_code 34 = .ok (.aload_n 0, 1) := by decide +kernel
theorem kW_product_d35 : decode prog_9_method_19_code 35 = .ok (.getfield 9, 3) := by decide +kernel
theorem kW_product_d38 : decode prog_9_method_19_code 38 = .ok (.astore 4, 2) := by decide +kernel
theorem kW_product_d40 : decode prog_9_method_19_code 40 = .ok (.aload_n 2, 1) := by decide +kernel
theorem kW_product_d41 : decode prog_9_method_19_code 41 = .ok (.getfield 9, 3) := by decide +kernel
theorem kW_product_d44 : decode prog_9_method_19_code 44 = .ok (.astore 5, 2) := by decide +kernel
theorem kW_product_d46 : decode prog_9_method_19_code 46 = .ok (.aload 4, 2) := by decide +kernel
theorem kW_product_d48 : decode prog_9_method_19_code 48 = .ok (.iconst 0, 1) := by decide +kernel
theorem kW_product_d49 : decode prog_9_method_19_code 49 = .ok (.iload_n 3, 1) := by decide +kernel
theorem kW_product_d50 : decode prog_9_method_19_code 50 = .ok (.iconst 0, 1) := by decide +kernel
theorem kW_product_d51 : decode prog_9_method_19_code 51 = .ok (.invokestatic 66, 3) := by decide +kernel
theorem kW_product_d54 : decode prog_9_method_19_code 54 = .ok (.iconst 0, 1) := by decide +kernel
theorem kW_product_d55 : decode prog_9_method_19_code 55 = .ok (.istore 6, 2) := by decide +kernel
theorem kW_product_d57 : decode prog_9_method_19_code 57 = .ok (.iload 6, 2) := by decide +kernel
theorem kW_product_d59 : decode prog_9_method_19_code 59 = .ok (.aload_n 1, 1) := by decide +kernel
theorem kW_product_d60 : decode prog_9_method_19_code 60 = .ok (.getfield 22, 3) := by decide +kernel
theorem kW_product_d63 : decode prog_9_method_19_code 63 = .ok (.if_icmp .ge 101, 3) := by decide +kernel
theorem kW_product_d66 : decode prog_9_method_19_code 66 = .ok (.aload_n 1, 1) := by decide +kernel
theorem kW_product_d67 : decode prog_9_method_19_code 67 = .ok (.getfield 9, 3) := by decide +kernel
theorem kW_product_d70 : decode prog_9_method_19_code 70 = .ok (.iload 6, 2) := by decide +kernel
theorem kW_product_d72 : decode prog_9_method_19_code 72 = .ok (.iaload, 1) := by decide +kernel
theorem kW_product_d73 : decode prog_9_method_19_code 73 = .ok (.i2l, 1) := by decide +kernel
theorem kW_product_d74 : decode prog_9_method_19_code 74 = .ok (.ldc2_w 50, 3) := by decide +kernel
theorem kW_product_d77 : decode prog_9_method_19_code 77 = .ok (.land, 1) := by decide +kernel
theorem kW_product_d78 : decode prog_9_method_19_code 78 = .ok (.lstore 7, 2) := by decide +kernel
theorem kW_product_d80 : decode prog_9_method_19_code 80 = .ok (.lconst 0, 1) := by decide +kernel
theorem kW_product_d81 : decode prog_9_method_19_code 81 = .ok (.lstore 9, 2) := by decide +kernel
theorem kW_product_d83 : decode prog_9_method_19_code 83 = .ok (.iconst 0, 1) := by decide +kernel
theorem kW_product_d84 : decode prog_9_method_19_code 84 = .ok (.istore 11, 2) := by decide +kernel
theorem kW_product_d86 : decode prog_9_method_19_code 86 = .ok (.iload 11, 2) := by decide +kernel
theorem kW_product_d88 : decode prog_9_method_19_code 88 = .ok (.iload_n 3, 1) := by decide +kernel
theorem kW_product_d89 : decode prog_9_method_19_code 89 = .ok (.if_icmp .ge 59, 3) := by decide +kernel
theorem kW_product_d92 : decode prog_9_method_19_code 92 = .ok (.lload 9, 2) := by decide +kernel
theorem kW_product_d94 : decode prog_9_method_19_code 94 = .ok (.lload 7, 2) := by decide +kernel
theorem kW_product_d96 : decode prog_9_method_19_code 96 = .ok (.aload 5, 2) := by decide +kernel
theorem kW_product_d98 : decode prog_9_method_19_code 98 = .ok (.iload 11, 2) := by decide +kernel
theorem kW_product_d100 : decode prog_9_method_19_code 100 = .ok (.iaload, 1) := by decide +kernel
theorem kW_product_d101 : decode prog_9_method_19_code 101 = .ok (.i2l, 1) := by decide +kernel
theorem kW_product_d102 : decode prog_9_method_19_code 102 = .ok (.ldc2_w 50, 3) := by decide +kernel
theorem kW_product_d105 : decode prog_9_method_19_code 105 = .ok (.land, 1) := by decide +kernel
theorem kW_product_d106 : decode prog_9_method_19_code 106 = .ok (.lmul, 1) := by decide +kernel
theorem kW_product_d107 : decode prog_9_method_19_code 107 = .ok (.aload 4, 2) := by decide +kernel
theorem kW_product_d109 : decode prog_9_method_19_code 109 = .ok (.iload 6, 2) := by decide +kernel
theorem kW_product_d111 : decode prog_9_method_19_code 111 = .ok (.iload 11, 2) := by decide +kernel
theorem kW_product_d113 : decode prog_9_method_19_code 113 = .ok (.iadd, 1) := by decide +kernel
theorem kW_product_d114 : decode prog_9_method_19_code 114 = .ok (.iaload, 1) := by decide +kernel
theorem kW_product_d115 : decode prog_9_method_19_code 115 = .ok (.i2l, 1) := by decide +kernel
theorem kW_product_d116 : decode prog_9_method_19_code 116 = .ok (.ldc2_w 50, 3) := by decide +kernel
theorem kW_product_d119 : decode prog_9_method_19_code 119 = .ok (.land, 1) := by decide +kernel
theorem kW_product_d120 : decode prog_9_method_19_code 120 = .ok (.ladd, 1) := by decide +kernel
theorem kW_product_d121 : decode prog_9_method_19_code 121 = .ok (.ladd, 1) := by decide +kernel
theorem kW_product_d122 : decode prog_9_method_19_code 122 = .ok (.lstore 9, 2) := by decide +kernel
theorem kW_product_d124 : decode prog_9_method_19_code 124 = .ok (.aload 4, 2) := by decide +kernel
theorem kW_product_d126 : decode prog_9_method_19_code 126 = .ok (.iload 6, 2) := by decide +kernel
theorem kW_product_d128 : decode prog_9_method_19_code 128 = .ok (.iload 11, 2) := by decide +kernel
theorem kW_product_d130 : decode prog_9_method_19_code 130 = .ok (.iadd, 1) := by decide +kernel
theorem kW_product_d131 : decode prog_9_method_19_code 131 = .ok (.lload 9, 2) := by decide +kernel
theorem kW_product_d133 : decode prog_9_method_19_code 133 = .ok (.l2i, 1) := by decide +kernel
theorem kW_product_d134 : decode prog_9_method_19_code 134 = .ok (.iastore, 1) := by decide +kernel
theorem kW_product_d135 : decode prog_9_method_19_code 135 = .ok (.lload 9, 2) := by decide +kernel
theorem kW_product_d137 : decode prog_9_method_19_code 137 = .ok (.bipush 32, 2) := by decide +kernel
theorem kW_product_d139 : decode prog_9_method_19_code 139 = .ok (.lushr, 1) := by decide +kernel
theorem kW_product_d140 : decode prog_9_method_19_code 140 = .ok (.lstore 9, 2) := by decide +kernel
theorem kW_product_d142 : decode prog_9_method_19_code 142 = .ok (.iinc 11 1, 3) := by decide +kernel
theorem kW_product_d145 : decode prog_9_method_19_code 145 = .ok (.goto (-59), 3) := by decide +kernel
theorem kW_product_d148 : decode prog_9_method_19_code 148 = .ok (.aload 4, 2) := by decide +kernel
theorem kW_product_d150 : decode prog_9_method_19_code 150 = .ok (.iload 6, 2) := by decide +kernel
theorem kW_product_d152 : decode prog_9_method_19_code 152 = .ok (.iload_n 3, 1) := by decide +kernel
theorem kW_product_d153 : decode prog_9_method_19_code 153 = .ok (.iadd, 1) := by decide +kernel
theorem kW_product_d154 : decode prog_9_method_19_code 154 = .ok (.lload 9, 2) := by decide +kernel
theorem kW_product_d156 : decode prog_9_method_19_code 156 = .ok (.l2i, 1) := by decide +kernel
theorem kW_product_d157 : decode prog_9_method_19_code 157 = .ok (.iastore, 1) := by decide +kernel
theorem kW_product_d158 : decode prog_9_method_19_code 158 = .ok (.iinc 6 1, 3) := by decide +kernel
theorem kW_product_d161 : decode prog_9_method_19_code 161 = .ok (.goto (-104), 3) := by decide +kernel
theorem kW_product_d164 : decode prog_9_method_19_code 164 = .ok (.aload_n 0, 1) := by decide +kernel
theorem kW_product_d165 : decode prog_9_method_19_code 165 = .ok (.aload_n 1, 1) := by decide +kernel
theorem kW_product_d166 : decode prog_9_method_19_code 166 = .ok (.getfield 22, 3) := by decide +kernel
theorem kW_product_d169 : decode prog_9_method_19_code 169 = .ok (.iload_n 3, 1) := by decide +kernel
theorem kW_product_d170 : decode prog_9_method_19_code 170 = .ok (.iadd, 1) := by decide +kernel
theorem kW_product_d171 : decode prog_9_method_19_code 171 = .ok (.putfield 22, 3) := by decide +kernel
theorem kW_product_d174 : decode prog_9_method_19_code 174 = .ok (.aload_n 0, 1) := by decide +kernel
theorem kW_product_d175 : decode prog_9_method_19_code 175 = .ok (.aload_n 1, 1) := by decide +kernel
theorem kW_product_d176 : decode prog_9_method_19_code 176 = .ok (.getfield 26, 3) := by decide +kernel
theorem kW_product_d179 : decode prog_9_method_19_code 179 = .ok (.aload_n 2, 1) := by decide +kernel
theorem kW_product_d180 : decode prog_9_method_19_code 180 = .ok (.getfield 26, 3) := by decide +kernel
theorem kW_product_d183 : decode prog_9_method_19_code 183 = .ok (.if_icmp .eq 7, 3) := by decide +kernel
theorem kW_product_d186 : decode prog_9_method_19_code 186 = .ok (.iconst 1, 1) := by decide +kernel
theorem kW_product_d187 : decode prog_9_method_19_code 187 = .ok (.goto 4, 3) := by decide +kernel
theorem kW_product_d190 : decode prog_9_method_19_code 190 = .ok (.iconst 0, 1) := by decide +kernel
theorem kW_product_d191 : decode prog_9_method_19_code 191 = .ok (.putfield 26, 3) := by decide +kernel
theorem kW_product_d194 : decode prog_9_method_19_code 194 = .ok (.aload_n 0, 1) := by decide +kernel
theorem kW_product_d195 : decode prog_9_method_19_code 195 = .ok (.invokevirtual 30, 3) := by decide +kernel
theorem kW_product_d198 : decode prog_9_method_19_code 198 = .ok (.return_, 1) := by decide +kernel
theorem kW_sum_d0 : decode prog_9_method_16_code 0 = .ok (.aload_n 2, 1) := by decide +kernel
theorem kW_sum_d1 : decode prog_9_method_16_code 1 = .ok (.getfield 26, 3) := by decide +kernel
theorem kW_sum_d4 : decode prog_9_method_16_code 4 = .ok (.iload_n 3, 1) := by decide +kernel
theorem kW_sum_d5 : decode prog_9_method_16_code 5 = .ok (.if_icmp .eq 7, 3) := by decide +kernel
theorem kW_sum_d8 : decode prog_9_method_16_code 8 = .ok (.iconst 1, 1) := by decide +kernel
theorem kW_sum_d9 : decode prog_9_method_16_code 9 = .ok (.goto 4, 3) := by decide +kernel
theorem kW_sum_d12 : decode prog_9_method_16_code 12 = .ok (.iconst 0, 1) := by decide +kernel
theorem kW_sum_d13 : decode prog_9_method_16_code 13 = .ok (.istore 4, 2) := by decide +kernel
theorem kW_sum_d15 : decode prog_9_method_16_code 15 = .ok (.aload_n 1, 1) := by decide +kernel
theorem kW_sum_d16 : decode prog_9_method_16_code 16 = .ok (.getfield 26, 3) := by decide +kernel
theorem kW_sum_d19 : decode prog_9_method_16_code 19 = .ok (.iload 4, 2) := by decide +kernel
theorem kW_sum_d21 : decode prog_9_method_16_code 21 = .ok (.if_icmp .ne 16, 3) := by decide +kernel
theorem kW_sum_d24 : decode prog_9_method_16_code 24 = .ok (.aload_n 0, 1) := by decide +kernel
theorem kW_sum_d25 : decode prog_9_method_16_code 25 = .ok (.aload_n 1, 1) := by decide +kernel
theorem kW_sum_d26 : decode prog_9_method_16_code 26 = .ok (.aload_n 2, 1) := by decide +kernel
theorem kW_sum_d27 : decode prog_9_method_16_code 27 = .ok (.aload_n 1, 1) := by decide +kernel
theorem kW_sum_d28 : decode prog_9_method_16_code 28 = .ok (.getfield 26, 3) := by decide +kernel
theorem kW_sum_d31 : decode prog_9_method_16_code 31 = .ok (.invokevirtual 56, 3) := by decide +kernel
theorem kW_sum_d34 : decode prog_9_method_16_code 34 = .ok (.goto 32, 3) := by decide +kernel
theorem kW_sum_d37 : decode prog_9_method_16_code 37 = .ok (.aload_n 1, 1) := by decide +kernel
theorem kW_sum_d38 : decode prog_9_method_16_code 38 = .ok (.aload_n 2, 1) := by decide +kernel
theorem kW_sum_d39 : decode prog_9_method_16_code 39 = .ok (.invokevirtual 52, 3) := by decide +kernel
theorem kW_sum_d42 : decode prog_9_method_16_code 42 = .ok (.ifCond .lt 16, 3) := by decide +kernel
theorem kW_sum_d45 : decode prog_9_method_16_code 45 = .ok (.aload_n 0, 1) := by decide +kernel
theorem kW_sum_d46 : decode prog_9_method_16_code 46 = .ok (.aload_n 1, 1) := by decide +kernel
theorem kW_sum_d47 : decode prog_9_method_16_code 47 = .ok (.aload_n 2, 1) := by decide +kernel
theorem kW_sum_d48 : decode prog_9_method_16_code 48 = .ok (.aload_n 1, 1) := by decide +kernel
theorem kW_sum_d49 : decode prog_9_method_16_code 49 = .ok (.getfield 26, 3) := by decide +kernel
theorem kW_sum_d52 : decode prog_9_method_16_code 52 = .ok (.invokevirtual 60, 3) := by decide +kernel
theorem kW_sum_d55 : decode prog_9_method_16_code 55 = .ok (.goto 11, 3) := by decide +kernel
theorem kW_sum_d58 : decode prog_9_method_16_code 58 = .ok (.aload_n 0, 1) := by decide +kernel
theorem kW_sum_d59 : decode prog_9_method_16_code 59 = .ok (.aload_n 2, 1) := by decide +kernel
theorem kW_sum_d60 : decode prog_9_method_16_code 60 = .ok (.aload_n 1, 1) := by decide +kernel
theorem kW_sum_d61 : decode prog_9_method_16_code 61 = .ok (.iload 4, 2) := by decide +kernel
theorem kW_sum_d63 : decode prog_9_method_16_code 63 = .ok (.invokevirtual 60, 3) := by decide +kernel
theorem kW_sum_d66 : decode prog_9_method_16_code 66 = .ok (.return_, 1) := by decide +kernel
theorem kW_addSizes_d0 : decode prog_9_method_17_code 0 = .ok (.aload_n 1, 1) := by decide +kernel
theorem kW_addSizes_d1 : decode prog_9_method_17_code 1 = .ok (.getfield 22, 3) := by decide +kernel
theorem kW_addSizes_d4 : decode prog_9_method_17_code 4 = .ok (.aload_n 2, 1) := by decide +kernel
theorem kW_addSizes_d5 : decode prog_9_method_17_code 5 = .ok (.getfield 22, 3) := by decide +kernel
theorem kW_addSizes_d8 : decode prog_9_method_17_code 8 = .ok (.if_icmp .lt 7, 3) := by decide +kernel
theorem kW_addSizes_d11 : decode prog_9_method_17_code 11 = .ok (.aload_n 1, 1) := by decide +kernel
theorem kW_addSizes_d12 : decode prog_9_method_17_code 12 = .ok (.goto 4, 3) := by decide +kernel
theorem kW_addSizes_d15 : decode prog_9_method_17_code 15 = .ok (.aload_n 2, 1) := by decide +kernel
theorem kW_addSizes_d16 : decode prog_9_method_17_code 16 = .ok (.astore 4, 2) := by decide +kernel
theorem kW_addSizes_d18 : decode prog_9_method_17_code 18 = .ok (.aload_n 1, 1) := by decide +kernel
theorem kW_addSizes_d19 : decode prog_9_method_17_code 19 = .ok (.getfield 22, 3) := by decide +kernel
theorem kW_addSizes_d22 : decode prog_9_method_17_code 22 = .ok (.aload_n 2, 1) := by decide +kernel
theorem kW_addSizes_d23 : decode prog_9_method_17_code 23 = .ok (.getfield 22, 3) := by decide +kernel
theorem kW_addSizes_d26 : decode prog_9_method_17_code 26 = .ok (.if_icmp .lt 7, 3) := by decide +kernel
theorem kW_addSizes_d29 : decode prog_9_method_17_code 29 = .ok (.aload_n 2, 1) := by decide +kernel
theorem kW_addSizes_d30 : decode prog_9_method_17_code 30 = .ok (.goto 4, 3) := by decide +kernel
theorem kW_addSizes_d33 : decode prog_9_method_17_code 33 = .ok (.aload_n 1, 1) := by decide +kernel
theorem kW_addSizes_d34 : decode prog_9_method_17_code 34 = .ok (.astore 5, 2) := by decide +kernel
theorem kW_addSizes_d36 : decode prog_9_method_17_code 36 = .ok (.aload 4, 2) := by decide +kernel
theorem kW_addSizes_d38 : decode prog_9_method_17_code 38 = .ok (.getfield 22, 3) := by decide +kernel
theorem kW_addSizes_d41 : decode prog_9_method_17_code 41 = .ok (.istore 6, 2) := by decide +kernel
theorem kW_addSizes_d43 : decode prog_9_method_17_code 43 = .ok (.aload 5, 2) := by decide +kernel
theorem kW_addSizes_d45 : decode prog_9_method_17_code 45 = .ok (.getfield 22, 3) := by decide +kernel
theorem kW_addSizes_d48 : decode prog_9_method_17_code 48 = .ok (.istore 7, 2) := by decide +kernel
theorem kW_addSizes_d50 : decode prog_9_method_17_code 50 = .ok (.aload_n 0, 1) := by decide +kernel
theorem kW_addSizes_d51 : decode prog_9_method_17_code 51 = .ok (.iload 6, 2) := by decide +kernel
theorem kW_addSizes_d53 : decode prog_9_method_17_code 53 = .ok (.iconst 1, 1) := by decide +kernel
theorem kW_addSizes_d54 : decode prog_9_method_17_code 54 = .ok (.iadd, 1) := by decide +kernel
theorem kW_addSizes_d55 : decode prog_9_method_17_code 55 = .ok (.invokevirtual 33, 3) := by decide +kernel
theorem kW_addSizes_d58 : decode prog_9_method_17_code 58 = .ok (.aload_n 0, 1) := by decide +kernel
theorem kW_addSizes_d59 : decode prog_9_method_17_code 59 = .ok (.getfield 9, 3) := by decide +kernel
theorem kW_addSizes_d62 : decode prog_9_method_17_code 62 = .ok (.astore 8, 2) := by decide +kernel
theorem kW_addSizes_d64 : decode prog_9_method_17_code 64 = .ok (.aload 4, 2) := by decide +kernel
theorem kW_addSizes_d66 : decode prog_9_method_17_code 66 = .ok (.getfield 9, 3) := by decide +kernel
theorem kW_addSizes_d69 : decode prog_9_method_17_code 69 = .ok (.astore 9, 2) := by decide +kernel
theorem kW_addSizes_d71 : decode prog_9_method_17_code 71 = .ok (.aload 5, 2) := by decide +kernel
theorem kW_addSizes_d73 : decode prog_9_method_17_code 73 = .ok (.getfield 9, 3) := by decide +kernel
theorem kW_addSizes_d76 : decode prog_9_method_17_code 76 = .ok (.astore 10, 2) := by decide +kernel
theorem kW_addSizes_d78 : decode prog_9_method_17_code 78 = .ok (.lconst 0, 1) := by decide +kernel
theorem kW_addSizes_d79 : decode prog_9_method_17_code 79 = .ok (.lstore 11, 2) := by decide +kernel
theorem kW_addSizes_d81 : decode prog_9_method_17_code 81 = .ok (.iconst 0, 1) := by decide +kernel
theorem kW_addSizes_d82 : decode prog_9_method_17_code 82 = .ok (.istore 13, 2) := by decide +kernel
theorem kW_addSizes_d84 : decode prog_9_method_17_code 84 = .ok (.iload 13, 2) := by decide +kernel
theorem kW_addSizes_d86 : decode prog_9_method_17_code 86 = .ok (.iload 7, 2) := by decide +kernel
theorem kW_addSizes_d88 : decode prog_9_method_17_code 88 = .ok (.if_icmp .ge 50, 3) := by decide +kernel
theorem kW_addSizes_d91 : decode prog_9_method_17_code 91 = .ok (.lload 11, 2) := by decide +kernel
theorem kW_addSizes_d93 : decode prog_9_method_17_code 93 = .ok (.aload 9, 2) := by decide +kernel
theorem kW_addSizes_d95 : decode prog_9_method_17_code 95 = .ok (.iload 13, 2) := by decide +kernel
theorem kW_addSizes_d97 : decode prog_9_method_17_code 97 = .ok (.iaload, 1) := by decide +kernel
theorem kW_addSizes_d98 : decode prog_9_method_17_code 98 = .ok (.i2l, 1) := by decide +kernel
theorem kW_addSizes_d99 : decode prog_9_method_17_code 99 = .ok (.ldc2_w 50, 3) := by decide +kernel
theorem kW_addSizes_d102 : decode prog_9_method_17_code 102 = .ok (.land, 1) := by decide +kernel
theorem kW_addSizes_d103 : decode prog_9_method_17_code 103 = .ok (.aload 10, 2) := by decide +kernel
theorem kW_addSizes_d105 : decode prog_9_method_17_code 105 = .ok (.iload 13, 2) := by decide +kernel
theorem kW_addSizes_d107 : decode prog_9_method_17_code 107 = .ok (.iaload, 1) := by decide +kernel
theorem kW_addSizes_d108 : decode prog_9_method_17_code 108 = .ok (.i2l, 1) := by decide +kernel
theorem kW_addSizes_d109 : decode prog_9_method_17_code 109 = .ok (.ldc2_w 50, 3) := by decide +kernel
theorem kW_addSizes_d112 : decode prog_9_method_17_code 112 = .ok (.land, 1) := by decide +kernel
theorem kW_addSizes_d113 : decode prog_9_method_17_code 113 = .ok (.ladd, 1) := by decide +kernel
theorem kW_addSizes_d114 : decode prog_9_method_17_code 114 = .ok (.ladd, 1) := by decide +kernel
theorem kW_addSizes_d115 : decode prog_9_method_17_code 115 = .ok (.lstore 11, 2) := by decide +kernel
theorem kW_addSizes_d117 : decode prog_9_method_17_code 117 = .ok (.aload 8, 2) := by decide +kernel
theorem kW_addSizes_d119 : decode prog_9_method_17_code 119 = .ok (.iload 13, 2) := by decide +kernel
theorem kW_addSizes_d121 : decode prog_9_method_17_code 121 = .ok (.lload 11, 2) := by decide +kernel
theorem kW_addSizes_d123 : decode prog_9_method_17_code 123 = .ok (.l2i, 1) := by decide +kernel
theorem kW_addSizes_d124 : decode prog_9_method_17_code 124 = .ok (.iastore, 1) := by decide +kernel
theorem kW_addSizes_d125 : decode prog_9_method_17_code 125 = .ok (.lload 11, 2) := by decide +kernel
theorem kW_addSizes_d127 : decode prog_9_method_17_code 127 = .ok (.bipush 32, 2) := by decide +kernel
theorem kW_addSizes_d129 : decode prog_9_method_17_code 129 = .ok (.lushr, 1) := by decide +kernel
theorem kW_addSizes_d130 : decode prog_9_method_17_code 130 = .ok (.lstore 11, 2) := by decide +kernel
theorem kW_addSizes_d132 : decode prog_9_method_17_code 132 = .ok (.iinc 13 1, 3) := by decide +kernel
theorem kW_addSizes_d135 : decode prog_9_method_17_code 135 = .ok (.goto (-51), 3) := by decide +kernel
theorem kW_addSizes_d138 : decode prog_9_method_17_code 138 = .ok (.iload 7, 2) := by decide +kernel
theorem kW_addSizes_d140 : decode prog_9_method_17_code 140 = .ok (.istore 13, 2) := by decide +kernel
theorem kW_addSizes_d142 : decode prog_9_method_17_code 142 = .ok (.iload 13, 2) := by decide +kernel
theorem kW_addSizes_d144 : decode prog_9_method_17_code 144 = .ok (.iload 6, 2) := by decide +kernel
theorem kW_addSizes_d146 : decode prog_9_method_17_code 146 = .ok (.if_icmp .ge 39, 3) := by decide +kernel
theorem kW_addSizes_d149 : decode prog_9_method_17_code 149 = .ok (.lload 11, 2) := by decide +kernel
theorem kW_addSizes_d151 : decode prog_9_method_17_code 151 = .ok (.aload 9, 2) := by decide +kernel
theorem kW_addSizes_d153 : decode prog_9_method_17_code 153 = .ok (.iload 13, 2) := by decide +kernel
theorem kW_addSizes_d155 : decode prog_9_method_17_code 155 = .ok (.iaload, 1) := by decide +kernel
theorem kW_addSizes_d156 : decode prog_9_method_17_code 156 = .ok (.i2l, 1) := by decide +kernel
theorem kW_addSizes_d157 : decode prog_9_method_17_code 157 = .ok (.ldc2_w 50, 3) := by decide +kernel
theorem kW_addSizes_d160 : decode prog_9_method_17_code 160 = .ok (.land, 1) := by decide +kernel
theorem kW_addSizes_d161 : decode prog_9_method_17_code 161 = .ok (.ladd, 1) := by decide +kernel
theorem kW_addSizes_d162 : decode prog_9_method_17_code 162 = .ok (.lstore 11, 2) := by decide +kernel
theorem kW_addSizes_d164 : decode prog_9_method_17_code 164 = .ok (.aload 8, 2) := by decide +kernel
theorem kW_addSizes_d166 : decode prog_9_method_17_code 166 = .ok (.iload 13, 2) := by decide +kernel
theorem kW_addSizes_d168 : decode prog_9_method_17_code 168 = .ok (.lload 11, 2) := by decide +kernel
theorem kW_addSizes_d170 : decode prog_9_method_17_code 170 = .ok (.l2i, 1) := by decide +kernel
theorem kW_addSizes_d171 : decode prog_9_method_17_code 171 = .ok (.iastore, 1) := by decide +kernel
theorem kW_addSizes_d172 : decode prog_9_method_17_code 172 = .ok (.lload 11, 2) := by decide +kernel
theorem kW_addSizes_d174 : decode prog_9_method_17_code 174 = .ok (.bipush 32, 2) := by decide +kernel
theorem kW_addSizes_d176 : decode prog_9_method_17_code 176 = .ok (.lushr, 1) := by decide +kernel
theorem kW_addSizes_d177 : decode prog_9_method_17_code 177 = .ok (.lstore 11, 2) := by decide +kernel
theorem kW_addSizes_d179 : decode prog_9_method_17_code 179 = .ok (.iinc 13 1, 3) := by decide +kernel
theorem kW_addSizes_d182 : decode prog_9_method_17_code 182 = .ok (.goto (-40), 3) := by decide +kernel
theorem kW_addSizes_d185 : decode prog_9_method_17_code 185 = .ok (.aload 8, 2) := by decide +kernel
theorem kW_addSizes_d187 : decode prog_9_method_17_code 187 = .ok (.iload 6, 2) := by decide +kernel
theorem kW_addSizes_d189 : decode prog_9_method_17_code 189 = .ok (.lload 11, 2) := by decide +kernel
theorem kW_addSizes_d191 : decode prog_9_method_17_code 191 = .ok (.l2i, 1) := by decide +kernel
theorem kW_addSizes_d192 : decode prog_9_method_17_code 192 = .ok (.iastore, 1) := by decide +kernel
theorem kW_addSizes_d193 : decode prog_9_method_17_code 193 = .ok (.aload_n 0, 1) := by decide +kernel
theorem kW_addSizes_d194 : decode prog_9_method_17_code 194 = .ok (.iload 6, 2) := by decide +kernel
theorem kW_addSizes_d196 : decode prog_9_method_17_code 196 = .ok (.iconst 1, 1) := by decide +kernel
theorem kW_addSizes_d197 : decode prog_9_method_17_code 197 = .ok (.iadd, 1) := by decide +kernel
theorem kW_addSizes_d198 : decode prog_9_method_17_code 198 = .ok (.putfield 22, 3) := by decide +kernel
theorem kW_addSizes_d201 : decode prog_9_method_17_code 201 = .ok (.aload_n 0, 1) := by decide +kernel
theorem kW_addSizes_d202 : decode prog_9_method_17_code 202 = .ok (.iload_n 3, 1) := by decide +kernel
theorem kW_addSizes_d203 : decode prog_9_method_17_code 203 = .ok (.putfield 26, 3) := by decide +kernel
theorem kW_addSizes_d206 : decode prog_9_method_17_code 206 = .ok (.aload_n 0, 1) := by decide +kernel
theorem kW_addSizes_d207 : decode prog_9_method_17_code 207 = .ok (.invokevirtual 30, 3) := by decide +kernel
theorem kW_addSizes_d210 : decode prog_9_method_17_code 210 = .ok (.return_, 1) := by decide +kernel
theorem kW_subtractSizes_d0 : decode prog_9_method_18_code 0 = .ok (.aload_n 1, 1) := by decide +kernel
theorem kW_subtractSizes_d1 : decode prog_9_method_18_code 1 = .ok (.getfield 22, 3) := by decide +kernel
theorem kW_subtractSizes_d4 : decode prog_9_method_18_code 4 = .ok (.istore 4, 2) := by decide +kernel
theorem kW_subtractSizes_d6 : decode prog_9_method_18_code 6 = .ok (.aload_n 2, 1) := by decide +kernel
theorem kW_subtractSizes_d7 : decode prog_9_method_18_code 7 = .ok (.getfield 22, 3) := by decide +kernel
theorem kW_subtractSizes_d10 : decode prog_9_method_18_code 10 = .ok (.istore 5, 2) := by decide +kernel
theorem kW_subtractSizes_d12 : decode prog_9_method_18_code 12 = .ok (.aload_n 0, 1) := by decide +kernel
theorem kW_subtractSizes_d13 : decode prog_9_method_18_code 13 = .ok (.iload 4, 2) := by decide +kernel
theorem kW_subtractSizes_d15 : decode prog_9_method_18_code 15 = .ok (.invokevirtual 33, 3) := by decide +kernel
theorem kW_subtractSizes_d18 : decode prog_9_method_18_code 18 = .ok (.aload_n 0, 1) := by decide +kernel
theorem kW_subtractSizes_d19 : decode prog_9_method_18_code 19 = .ok (.getfield 9, 3) := by decide +kernel
theorem kW_subtractSizes_d22 : decode prog_9_method_18_code 22 = .ok (.astore 6, 2) := by decide +kernel
theorem kW_subtractSizes_d24 : decode prog_9_method_18_code 24 = .ok (.aload_n 1, 1) := by decide +kernel
theorem kW_subtractSizes_d25 : decode prog_9_method_18_code 25 = .ok (.getfield 9, 3) := by decide +kernel
theorem kW_subtractSizes_d28 : decode prog_9_method_18_code 28 = .ok (.astore 7, 2) := by decide +kernel
theorem kW_subtractSizes_d30 : decode prog_9_method_18_code 30 = .ok (.aload_n 2, 1) := by decide +kernel
theorem kW_subtractSizes_d31 : decode prog_9_method_18_code 31 = .ok (.getfield 9, 3) := by decide +kernel
theorem kW_subtractSizes_d34 : decode prog_9_method_18_code 34 = .ok (.astore 8, 2) := by decide +kernel
theorem kW_subtractSizes_d36 : decode prog_9_method_18_code 36 = .ok (.lconst 0, 1) := by decide +kernel
theorem kW_subtractSizes_d37 : decode prog_9_method_18_code 37 = .ok (.lstore 9, 2) := by decide +kernel
theorem kW_subtractSizes_d39 : decode prog_9_method_18_code 39 = .ok (.iconst 0, 1) := by decide +kernel
theorem kW_subtractSizes_d40 : decode prog_9_method_18_code 40 = .ok (.istore 11, 2) := by decide +kernel
theorem kW_subtractSizes_d42 : decode prog_9_method_18_code 42 = .ok (.iload 11, 2) := by decide +kernel
theorem kW_subtractSizes_d44 : decode prog_9_method_18_code 44 = .ok (.iload 5, 2) := by decide +kernel
theorem kW_subtractSizes_d46 : decode prog_9_method_18_code 46 = .ok (.if_icmp .ge 50, 3) := by decide +kernel
theorem kW_subtractSizes_d49 : decode prog_9_method_18_code 49 = .ok (.lload 9, 2) := by decide +kernel
theorem kW_subtractSizes_d51 : decode prog_9_method_18_code 51 = .ok (.aload 7, 2) := by decide +kernel
theorem kW_subtractSizes_d53 : decode prog_9_method_18_code 53 = .ok (.iload 11, 2) := by decide +kernel
theorem kW_subtractSizes_d55 : decode prog_9_method_18_code 55 = .ok (.iaload, 1) := by decide +kernel
theorem kW_subtractSizes_d56 : decode prog_9_method_18_code 56 = .ok (.i2l, 1) := by decide +kernel
theorem kW_subtractSizes_d57 : decode prog_9_method_18_code 57 = .ok (.ldc2_w 50, 3) := by decide +kernel
theorem kW_subtractSizes_d60 : decode prog_9_method_18_code 60 = .ok (.land, 1) := by decide +kernel
theorem kW_subtractSizes_d61 : decode prog_9_method_18_code 61 = .ok (.aload 8, 2) := by decide +kernel
theorem kW_subtractSizes_d63 : decode prog_9_method_18_code 63 = .ok (.iload 11, 2) := by decide +kernel
theorem kW_subtractSizes_d65 : decode prog_9_method_18_code 65 = .ok (.iaload, 1) := by decide +kernel
theorem kW_subtractSizes_d66 : decode prog_9_method_18_code 66 = .ok (.i2l, 1) := by decide +kernel
theorem kW_subtractSizes_d67 : decode prog_9_method_18_code 67 = .ok (.ldc2_w 50, 3) := by decide +kernel
theorem kW_subtractSizes_d70 : decode prog_9_method_18_code 70 = .ok (.land, 1) := by decide +kernel
theorem kW_subtractSizes_d71 : decode prog_9_method_18_code 71 = .ok (.lsub, 1) := by decide +kernel
theorem kW_subtractSizes_d72 : decode prog_9_method_18_code 72 = .ok (.ladd, 1) := by decide +kernel
theorem kW_subtractSizes_d73 : decode prog_9_method_18_code 73 = .ok (.lstore 9, 2) := by decide +kernel
theorem kW_subtractSizes_d75 : decode prog_9_method_18_code 75 = .ok (.aload 6, 2) := by decide +kernel
theorem kW_subtractSizes_d77 : decode prog_9_method_18_code 77 = .ok (.iload 11, 2) := by decide +kernel
theorem kW_subtractSizes_d79 : decode prog_9_method_18_code 79 = .ok (.lload 9, 2) := by decide +kernel
theorem kW_subtractSizes_d81 : decode prog_9_method_18_code 81 = .ok (.l2i, 1) := by decide +kernel
theorem kW_subtractSizes_d82 : decode prog_9_method_18_code 82 = .ok (.iastore, 1) := by decide +kernel
theorem kW_subtractSizes_d83 : decode prog_9_method_18_code 83 = .ok (.lload 9, 2) := by decide +kernel
theorem kW_subtractSizes_d85 : decode prog_9_method_18_code 85 = .ok (.bipush 32, 2) := by decide +kernel
theorem kW_subtractSizes_d87 : decode prog_9_method_18_code 87 = .ok (.lshr, 1) := by decide +kernel
theorem kW_subtractSizes_d88 : decode prog_9_method_18_code 88 = .ok (.lstore 9, 2) := by decide +kernel
theorem kW_subtractSizes_d90 : decode prog_9_method_18_code 90 = .ok (.iinc 11 1, 3) := by decide +kernel
theorem kW_subtractSizes_d93 : decode prog_9_method_18_code 93 = .ok (.goto (-51), 3) := by decide +kernel
theorem kW_subtractSizes_d96 : decode prog_9_method_18_code 96 = .ok (.iload 5, 2) := by decide +kernel
theorem kW_subtractSizes_d98 : decode prog_9_method_18_code 98 = .ok (.istore 11, 2) := by decide +kernel
theorem kW_subtractSizes_d100 : decode prog_9_method_18_code 100 = .ok (.iload 11, 2) := by decide +kernel
theorem kW_subtractSizes_d102 : decode prog_9_method_18_code 102 = .ok (.iload 4, 2) := by decide +kernel
theorem kW_subtractSizes_d104 : decode prog_9_method_18_code 104 = .ok (.if_icmp .ge 39, 3) := by decide +kernel
theorem kW_subtractSizes_d107 : decode prog_9_method_18_code 107 = .ok (.lload 9, 2) := by decide +kernel
theorem kW_subtractSizes_d109 : decode prog_9_method_18_code 109 = .ok (.aload 7, 2) := by decide +kernel
theorem kW_subtractSizes_d111 : decode prog_9_method_18_code 111 = .ok (.iload 11, 2) := by decide +kernel
theorem kW_subtractSizes_d113 : decode prog_9_method_18_code 113 = .ok (.iaload, 1) := by decide +kernel
theorem kW_subtractSizes_d114 : decode prog_9_method_18_code 114 = .ok (.i2l, 1) := by decide +kernel
theorem kW_subtractSizes_d115 : decode prog_9_method_18_code 115 = .ok (.ldc2_w 50, 3) := by decide +kernel
theorem kW_subtractSizes_d118 : decode prog_9_method_18_code 118 = .ok (.land, 1) := by decide +kernel
theorem kW_subtractSizes_d119 : decode prog_9_method_18_code 119 = .ok (.ladd, 1) := by decide +kernel
theorem kW_subtractSizes_d120 : decode prog_9_method_18_code 120 = .ok (.lstore 9, 2) := by decide +kernel
theorem kW_subtractSizes_d122 : decode prog_9_method_18_code 122 = .ok (.aload 6, 2) := by decide +kernel
theorem kW_subtractSizes_d124 : decode prog_9_method_18_code 124 = .ok (.iload 11, 2) := by decide +kernel
theorem kW_subtractSizes_d126 : decode prog_9_method_18_code 126 = .ok (.lload 9, 2) := by decide +kernel
theorem kW_subtractSizes_d128 : decode prog_9_method_18_code 128 = .ok (.l2i, 1) := by decide +kernel
theorem kW_subtractSizes_d129 : decode prog_9_method_18_code 129 = .ok (.iastore, 1) := by decide +kernel
theorem kW_subtractSizes_d130 : decode prog_9_method_18_code 130 = .ok (.lload 9, 2) := by decide +kernel
theorem kW_subtractSizes_d132 : decode prog_9_method_18_code 132 = .ok (.bipush 32, 2) := by decide +kernel
theorem kW_subtractSizes_d134 : decode prog_9_method_18_code 134 = .ok (.lshr, 1) := by decide +kernel
theorem kW_subtractSizes_d135 : decode prog_9_method_18_code 135 = .ok (.lstore 9, 2) := by decide +kernel
theorem kW_subtractSizes_d137 : decode prog_9_method_18_code 137 = .ok (.iinc 11 1, 3) := by decide +kernel
theorem kW_subtractSizes_d140 : decode prog_9_method_18_code 140 = .ok (.goto (-40), 3) := by decide +kernel
theorem kW_subtractSizes_d143 : decode prog_9_method_18_code 143 = .ok (.aload_n 0, 1) := by decide +kernel
theorem kW_subtractSizes_d144 : decode prog_9_method_18_code 144 = .ok (.iload 4, 2) := by decide +kernel
theorem kW_subtractSizes_d146 : decode prog_9_method_18_code 146 = .ok (.putfield 22, 3) := by decide +kernel
theorem kW_subtractSizes_d149 : decode prog_9_method_18_code 149 = .ok (.aload_n 0, 1) := by decide +kernel
theorem kW_subtractSizes_d150 : decode prog_9_method_18_code 150 = .ok (.iload_n 3, 1) := by decide +kernel
theorem kW_subtractSizes_d151 : decode prog_9_method_18_code 151 = .ok (.putfield 26, 3) := by decide +kernel
theorem kW_subtractSizes_d154 : decode prog_9_method_18_code 154 = .ok (.aload_n 0, 1) := by decide +kernel
theorem kW_subtractSizes_d155 : decode prog_9_method_18_code 155 = .ok (.invokevirtual 30, 3) := by decide +kernel
theorem kW_subtractSizes_d158 : decode prog_9_method_18_code 158 = .ok (.return_, 1) := by decide +kernel
theorem kW_putLong_d0 : decode prog_9_method_5_code 0 = .ok (.lload_n 1, 1) := by decide +kernel
theorem kW_putLong_d1 : decode prog_9_method_5_code 1 = .ok (.lconst 0, 1) := by decide +kernel
theorem kW_putLong_d2 : decode prog_9_method_5_code 2 = .ok (.lcmp, 1) := by decide +kernel
theorem kW_putLong_d3 : decode prog_9_method_5_code 3 = .ok (.ifCond .ge 8, 3) := by decide +kernel
theorem kW_putLong_d6 : decode prog_9_method_5_code 6 = .ok (.lload_n 1, 1) := by decide +kernel
theorem kW_putLong_d7 : decode prog_9_method_5_code 7 = .ok (.lneg, 1) := by decide +kernel
theorem kW_putLong_d8 : decode prog_9_method_5_code 8 = .ok (.goto 4, 3) := by decide +kernel
theorem kW_putLong_d11 : decode prog_9_method_5_code 11 = .ok (.lload_n 1, 1) := by decide +kernel
theorem kW_putLong_d12 : decode prog_9_method_5_code 12 = .ok (.lstore_n 3, 1) := by decide +kernel
theorem kW_putLong_d13 : decode prog_9_method_5_code 13 = .ok (.aload_n 0, 1) := by decide +kernel
theorem kW_putLong_d14 : decode prog_9_method_5_code 14 = .ok (.getfield 9, 3) := by decide +kernel
theorem kW_putLong_d17 : decode prog_9_method_5_code 17 = .ok (.iconst 0, 1) := by decide +kernel
theorem kW_putLong_d18 : decode prog_9_method_5_code 18 = .ok (.lload_n 3, 1) := by decide +kernel
theorem kW_putLong_d19 : decode prog_9_method_5_code 19 = .ok (.l2i, 1) := by decide +kernel
theorem kW_putLong_d20 : decode prog_9_method_5_code 20 = .ok (.iastore, 1) := by decide +kernel
theorem kW_putLong_d21 : decode prog_9_method_5_code 21 = .ok (.aload_n 0, 1) := by decide +kernel
theorem kW_putLong_d22 : decode prog_9_method_5_code 22 = .ok (.getfield 9, 3) := by decide +kernel
theorem kW_putLong_d25 : decode prog_9_method_5_code 25 = .ok (.iconst 1, 1) := by decide +kernel
theorem kW_putLong_d26 : decode prog_9_method_5_code 26 = .ok (.lload_n 3, 1) := by decide +kernel
theorem kW_putLong_d27 : decode prog_9_method_5_code 27 = .ok (.bipush 32, 2) := by decide +kernel
theorem kW_putLong_d29 : decode prog_9_method_5_code 29 = .ok (.lushr, 1) := by decide +kernel
theorem kW_putLong_d30 : decode prog_9_method_5_code 30 = .ok (.l2i, 1) := by decide +kernel
theorem kW_putLong_d31 : decode prog_9_method_5_code 31 = .ok (.iastore, 1) := by decide +kernel
theorem kW_putLong_d32 : decode prog_9_method_5_code 32 = .ok (.aload_n 0, 1) := by decide +kernel
theorem kW_putLong_d33 : decode prog_9_method_5_code 33 = .ok (.iconst 2, 1) := by decide +kernel
theorem kW_putLong_d34 : decode prog_9_method_5_code 34 = .ok (.putfield 22, 3) := by decide +kernel
theorem kW_putLong_d37 : decode prog_9_method_5_code 37 = .ok (.aload_n 0, 1) := by decide +kernel
theorem kW_putLong_d38 : decode prog_9_method_5_code 38 = .ok (.lload_n 1, 1) := by decide +kernel
theorem kW_putLong_d39 : decode prog_9_method_5_code 39 = .ok (.lconst 0, 1) := by decide +kernel
theorem kW_putLong_d40 : decode prog_9_method_5_code 40 = .ok (.lcmp, 1) := by decide +kernel
theorem kW_putLong_d41 : decode prog_9_method_5_code 41 = .ok (.ifCond .ge 7, 3) := by decide +kernel
theorem kW_putLong_d44 : decode prog_9_method_5_code 44 = .ok (.iconst 1, 1) := by decide +kernel
theorem kW_putLong_d45 : decode prog_9_method_5_code 45 = .ok (.goto 4, 3) := by decide +kernel
theorem kW_putLong_d48 : decode prog_9_method_5_code 48 = .ok (.iconst 0, 1) := by decide +kernel
theorem kW_putLong_d49 : decode prog_9_method_5_code 49 = .ok (.putfield 26, 3) := by decide +kernel
theorem kW_putLong_d52 : decode prog_9_method_5_code 52 = .ok (.aload_n 0, 1) := by decide +kernel
theorem kW_putLong_d53 : decode prog_9_method_5_code 53 = .ok (.invokevirtual 30, 3) := by decide +kernel
theorem kW_putLong_d56 : decode prog_9_method_5_code 56 = .ok (.return_, 1) := by decide +kernel
theorem kW_equalTo_d0 : decode prog_9_method_15_code 0 = .ok (.aload_n 0, 1) := by decide +kernel
theorem kW_equalTo_d1 : decode prog_9_method_15_code 1 = .ok (.getfield 26, 3) := by decide +kernel
theorem kW_equalTo_d4 : decode prog_9_method_15_code 4 = .ok (.aload_n 1, 1) := by decide +kernel
theorem kW_equalTo_d5 : decode prog_9_method_15_code 5 = .ok (.getfield 26, 3) := by decide +kernel
theorem kW_equalTo_d8 : decode prog_9_method_15_code 8 = .ok (.if_icmp .ne 15, 3) := by decide +kernel
theorem kW_equalTo_d11 : decode prog_9_method_15_code 11 = .ok (.aload_n 0, 1) := by decide +kernel
theorem kW_equalTo_d12 : decode prog_9_method_15_code 12 = .ok (.aload_n 1, 1) := by decide +kernel
theorem kW_equalTo_d13 : decode prog_9_method_15_code 13 = .ok (.invokevirtual 52, 3) := by decide +kernel
theorem kW_equalTo_d16 : decode prog_9_method_15_code 16 = .ok (.ifCond .ne 7, 3) := by decide +kernel
theorem kW_equalTo_d19 : decode prog_9_method_15_code 19 = .ok (.iconst 1, 1) := by decide +kernel
theorem kW_equalTo_d20 : decode prog_9_method_15_code 20 = .ok (.goto 4, 3) := by decide +kernel
theorem kW_equalTo_d23 : decode prog_9_method_15_code 23 = .ok (.iconst 0, 1) := by decide +kernel
theorem kW_equalTo_d24 : decode prog_9_method_15_code 24 = .ok (.ireturn, 1) := by decide +kernel
