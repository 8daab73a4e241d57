theorem kRW_init_d0 : decode prog_14_method_1_code 0 = .ok (.aload_n 0, 1) := by decide +kernel
theorem kRW_init_d1 : decode prog_14_method_1_code 1 = .ok (.invokespecial 1, 3) := by decide +kernel
theorem kRW_init_d4 : decode prog_14_method_1_code 4 = .ok (.aload_n 0, 1) := by decide +kernel
theorem kRW_init_d5 : decode prog_14_method_1_code 5 = .ok (.sipush 4096, 3) := by decide +kernel
theorem kRW_init_d8 : decode prog_14_method_1_code 8 = .ok (.newarray .int, 2) := by decide +kernel
theorem kRW_init_d10 : decode prog_14_method_1_code 10 = .ok (.putfield 7, 3) := by decide +kernel
theorem kRW_init_d13 : decode prog_14_method_1_code 13 = .ok (.aload_n 0, 1) := by decide +kernel
theorem kRW_init_d14 : decode prog_14_method_1_code 14 = .ok (.iconst 1, 1) := by decide +kernel
theorem kRW_init_d15 : decode prog_14_method_1_code 15 = .ok (.putfield 13, 3) := by decide +kernel
theorem kRW_init_d18 : decode prog_14_method_1_code 18 = .ok (.return_, 1) := by decide +kernel
theorem kRW_of_d0 : decode prog_14_method_7_code 0 = .ok (.aload_n 0, 1) := by decide +kernel
theorem kRW_of_d1 : decode prog_14_method_7_code 1 = .ok (.bipush 7, 2) := by decide +kernel
theorem kRW_of_d3 : decode prog_14_method_7_code 3 = .ok (.invokevirtual 27, 3) := by decide +kernel
theorem kRW_of_d6 : decode prog_14_method_7_code 6 = .ok (.lload_n 1, 1) := by decide +kernel
theorem kRW_of_d7 : decode prog_14_method_7_code 7 = .ok (.lstore_n 3, 1) := by decide +kernel
theorem kRW_of_d8 : decode prog_14_method_7_code 8 = .ok (.iconst 0, 1) := by decide +kernel
theorem kRW_of_d9 : decode prog_14_method_7_code 9 = .ok (.istore 5, 2) := by decide +kernel
theorem kRW_of_d11 : decode prog_14_method_7_code 11 = .ok (.lload_n 3, 1) := by decide +kernel
theorem kRW_of_d12 : decode prog_14_method_7_code 12 = .ok (.lconst 0, 1) := by decide +kernel
theorem kRW_of_d13 : decode prog_14_method_7_code 13 = .ok (.lcmp, 1) := by decide +kernel
theorem kRW_of_d14 : decode prog_14_method_7_code 14 = .ok (.ifCond .eq 50, 3) := by decide +kernel
theorem kRW_of_d17 : decode prog_14_method_7_code 17 = .ok (.lload_n 3, 1) := by decide +kernel
theorem kRW_of_d18 : decode prog_14_method_7_code 18 = .ok (.ldc2_w 31, 3) := by decide +kernel
theorem kRW_of_d21 : decode prog_14_method_7_code 21 = .ok (.lrem, 1) := by decide +kernel
theorem kRW_of_d22 : decode prog_14_method_7_code 22 = .ok (.l2i, 1) := by decide +kernel
theorem kRW_of_d23 : decode prog_14_method_7_code 23 = .ok (.istore 6, 2) := by decide +kernel
theorem kRW_of_d25 : decode prog_14_method_7_code 25 = .ok (.aload_n 0, 1) := by decide +kernel
theorem kRW_of_d26 : decode prog_14_method_7_code 26 = .ok (.getfield 7, 3) := by decide +kernel
theorem kRW_of_d29 : decode prog_14_method_7_code 29 = .ok (.aload_n 0, 1) := by decide +kernel
theorem kRW_of_d30 : decode prog_14_method_7_code 30 = .ok (.getfield 13, 3) := by decide +kernel
theorem kRW_of_d33 : decode prog_14_method_7_code 33 = .ok (.iconst 1, 1) := by decide +kernel
theorem kRW_of_d34 : decode prog_14_method_7_code 34 = .ok (.iadd, 1) := by decide +kernel
theorem kRW_of_d35 : decode prog_14_method_7_code 35 = .ok (.iload 5, 2) := by decide +kernel
theorem kRW_of_d37 : decode prog_14_method_7_code 37 = .ok (.iadd, 1) := by decide +kernel
theorem kRW_of_d38 : decode prog_14_method_7_code 38 = .ok (.iload 6, 2) := by decide +kernel
theorem kRW_of_d40 : decode prog_14_method_7_code 40 = .ok (.ifCond .ge 9, 3) := by decide +kernel
theorem kRW_of_d43 : decode prog_14_method_7_code 43 = .ok (.iload 6, 2) := by decide +kernel
theorem kRW_of_d45 : decode prog_14_method_7_code 45 = .ok (.ineg, 1) := by decide +kernel
theorem kRW_of_d46 : decode prog_14_method_7_code 46 = .ok (.goto 5, 3) := by decide +kernel
theorem kRW_of_d49 : decode prog_14_method_7_code 49 = .ok (.iload 6, 2) := by decide +kernel
theorem kRW_of_d51 : decode prog_14_method_7_code 51 = .ok (.iastore, 1) := by decide +kernel
theorem kRW_of_d52 : decode prog_14_method_7_code 52 = .ok (.lload_n 3, 1) := by decide +kernel
theorem kRW_of_d53 : decode prog_14_method_7_code 53 = .ok (.ldc2_w 31, 3) := by decide +kernel
theorem kRW_of_d56 : decode prog_14_method_7_code 56 = .ok (.ldiv, 1) := by decide +kernel
theorem kRW_of_d57 : decode prog_14_method_7_code 57 = .ok (.lstore_n 3, 1) := by decide +kernel
theorem kRW_of_d58 : decode prog_14_method_7_code 58 = .ok (.iinc 5 1, 3) := by decide +kernel
theorem kRW_of_d61 : decode prog_14_method_7_code 61 = .ok (.goto (-50), 3) := by decide +kernel
theorem kRW_of_d64 : decode prog_14_method_7_code 64 = .ok (.aload_n 0, 1) := by decide +kernel
theorem kRW_of_d65 : decode prog_14_method_7_code 65 = .ok (.iload 5, 2) := by decide +kernel
theorem kRW_of_d67 : decode prog_14_method_7_code 67 = .ok (.lload_n 1, 1) := by decide +kernel
theorem kRW_of_d68 : decode prog_14_method_7_code 68 = .ok (.lconst 0, 1) := by decide +kernel
theorem kRW_of_d69 : decode prog_14_method_7_code 69 = .ok (.lcmp, 1) := by decide +kernel
theorem kRW_of_d70 : decode prog_14_method_7_code 70 = .ok (.ifCond .ge 7, 3) := by decide +kernel
theorem kRW_of_d73 : decode prog_14_method_7_code 73 = .ok (.iconst 1, 1) := by decide +kernel
theorem kRW_of_d74 : decode prog_14_method_7_code 74 = .ok (.goto 4, 3) := by decide +kernel
theorem kRW_of_d77 : decode prog_14_method_7_code 77 = .ok (.iconst 0, 1) := by decide +kernel
theorem kRW_of_d78 : decode prog_14_method_7_code 78 = .ok (.invokevirtual 33, 3) := by decide +kernel
theorem kRW_of_d81 : decode prog_14_method_7_code 81 = .ok (.ireturn, 1) := by decide +kernel
theorem kRW_room_d0 : decode prog_14_method_2_code 0 = .ok (.aload_n 0, 1) := by decide +kernel
theorem kRW_room_d1 : decode prog_14_method_2_code 1 = .ok (.getfield 7, 3) := by decide +kernel
theorem kRW_room_d4 : decode prog_14_method_2_code 4 = .ok (.arraylength, 1) := by decide +kernel
theorem kRW_room_d5 : decode prog_14_method_2_code 5 = .ok (.istore_n 2, 1) := by decide +kernel
theorem kRW_room_d6 : decode prog_14_method_2_code 6 = .ok (.aload_n 0, 1) := by decide +kernel
theorem kRW_room_d7 : decode prog_14_method_2_code 7 = .ok (.getfield 13, 3) := by decide +kernel
theorem kRW_room_d10 : decode prog_14_method_2_code 10 = .ok (.iload_n 1, 1) := by decide +kernel
theorem kRW_room_d11 : decode prog_14_method_2_code 11 = .ok (.iadd, 1) := by decide +kernel
theorem kRW_room_d12 : decode prog_14_method_2_code 12 = .ok (.iload_n 2, 1) := by decide +kernel
theorem kRW_room_d13 : decode prog_14_method_2_code 13 = .ok (.if_icmp .le 10, 3) := by decide +kernel
theorem kRW_room_d16 : decode prog_14_method_2_code 16 = .ok (.iconst 2, 1) := by decide +kernel
theorem kRW_room_d17 : decode prog_14_method_2_code 17 = .ok (.iload_n 2, 1) := by decide +kernel
theorem kRW_room_d18 : decode prog_14_method_2_code 18 = .ok (.imul, 1) := by decide +kernel
theorem kRW_room_d19 : decode prog_14_method_2_code 19 = .ok (.istore_n 2, 1) := by decide +kernel
theorem kRW_room_d20 : decode prog_14_method_2_code 20 = .ok (.goto (-14), 3) := by decide +kernel
theorem kRW_room_d23 : decode prog_14_method_2_code 23 = .ok (.iload_n 2, 1) := by decide +kernel
theorem kRW_room_d24 : decode prog_14_method_2_code 24 = .ok (.aload_n 0, 1) := by decide +kernel
theorem kRW_room_d25 : decode prog_14_method_2_code 25 = .ok (.getfield 7, 3) := by decide +kernel
theorem kRW_room_d28 : decode prog_14_method_2_code 28 = .ok (.arraylength, 1) := by decide +kernel
theorem kRW_room_d29 : decode prog_14_method_2_code 29 = .ok (.if_icmp .le 15, 3) := by decide +kernel
theorem kRW_room_d32 : decode prog_14_method_2_code 32 = .ok (.aload_n 0, 1) := by decide +kernel
theorem kRW_room_d33 : decode prog_14_method_2_code 33 = .ok (.aload_n 0, 1) := by decide +kernel
theorem kRW_room_d34 : decode prog_14_method_2_code 34 = .ok (.getfield 7, 3) := by decide +kernel
theorem kRW_room_d37 : decode prog_14_method_2_code 37 = .ok (.iload_n 2, 1) := by decide +kernel
theorem kRW_room_d38 : decode prog_14_method_2_code 38 = .ok (.invokestatic 17, 3) := by decide +kernel
theorem kRW_room_d41 : decode prog_14_method_2_code 41 = .ok (.putfield 7, 3) := by decide +kernel
theorem kRW_room_d44 : decode prog_14_method_2_code 44 = .ok (.return_, 1) := by decide +kernel
theorem kRW_finish_d0 : decode prog_14_method_6_code 0 = .ok (.iload_n 1, 1) := by decide +kernel
theorem kRW_finish_d1 : decode prog_14_method_6_code 1 = .ok (.istore_n 3, 1) := by decide +kernel
theorem kRW_finish_d2 : decode prog_14_method_6_code 2 = .ok (.iload_n 3, 1) := by decide +kernel
theorem kRW_finish_d3 : decode prog_14_method_6_code 3 = .ok (.ifCond .le 23, 3) := by decide +kernel
theorem kRW_finish_d6 : decode prog_14_method_6_code 6 = .ok (.aload_n 0, 1) := by decide +kernel
theorem kRW_finish_d7 : decode prog_14_method_6_code 7 = .ok (.getfield 7, 3) := by decide +kernel
theorem kRW_finish_d10 : decode prog_14_method_6_code 10 = .ok (.aload_n 0, 1) := by decide +kernel
theorem kRW_finish_d11 : decode prog_14_method_6_code 11 = .ok (.getfield 13, 3) := by decide +kernel
theorem kRW_finish_d14 : decode prog_14_method_6_code 14 = .ok (.iload_n 3, 1) := by decide +kernel
theorem kRW_finish_d15 : decode prog_14_method_6_code 15 = .ok (.iadd, 1) := by decide +kernel
theorem kRW_finish_d16 : decode prog_14_method_6_code 16 = .ok (.iaload, 1) := by decide +kernel
theorem kRW_finish_d17 : decode prog_14_method_6_code 17 = .ok (.ifCond .ne 9, 3) := by decide +kernel
theorem kRW_finish_d20 : decode prog_14_method_6_code 20 = .ok (.iinc 3 (-1), 3) := by decide +kernel
theorem kRW_finish_d23 : decode prog_14_method_6_code 23 = .ok (.goto (-21), 3) := by decide +kernel
theorem kRW_finish_d26 : decode prog_14_method_6_code 26 = .ok (.iload_n 3, 1) := by decide +kernel
theorem kRW_finish_d27 : decode prog_14_method_6_code 27 = .ok (.ifCond .ne 5, 3) := by decide +kernel
theorem kRW_finish_d30 : decode prog_14_method_6_code 30 = .ok (.iconst 0, 1) := by decide +kernel
theorem kRW_finish_d31 : decode prog_14_method_6_code 31 = .ok (.ireturn, 1) := by decide +kernel
theorem kRW_finish_d32 : decode prog_14_method_6_code 32 = .ok (.aload_n 0, 1) := by decide +kernel
theorem kRW_finish_d33 : decode prog_14_method_6_code 33 = .ok (.getfield 13, 3) := by decide +kernel
theorem kRW_finish_d36 : decode prog_14_method_6_code 36 = .ok (.istore 4, 2) := by decide +kernel
theorem kRW_finish_d38 : decode prog_14_method_6_code 38 = .ok (.aload_n 0, 1) := by decide +kernel
theorem kRW_finish_d39 : decode prog_14_method_6_code 39 = .ok (.getfield 7, 3) := by decide +kernel
theorem kRW_finish_d42 : decode prog_14_method_6_code 42 = .ok (.iload 4, 2) := by decide +kernel
theorem kRW_finish_d44 : decode prog_14_method_6_code 44 = .ok (.iload_n 2, 1) := by decide +kernel
theorem kRW_finish_d45 : decode prog_14_method_6_code 45 = .ok (.ifCond .eq 8, 3) := by decide +kernel
theorem kRW_finish_d48 : decode prog_14_method_6_code 48 = .ok (.iload_n 3, 1) := by decide +kernel
theorem kRW_finish_d49 : decode prog_14_method_6_code 49 = .ok (.ineg, 1) := by decide +kernel
theorem kRW_finish_d50 : decode prog_14_method_6_code 50 = .ok (.goto 4, 3) := by decide +kernel
theorem kRW_finish_d53 : decode prog_14_method_6_code 53 = .ok (.iload_n 3, 1) := by decide +kernel
theorem kRW_finish_d54 : decode prog_14_method_6_code 54 = .ok (.iastore, 1) := by decide +kernel
theorem kRW_finish_d55 : decode prog_14_method_6_code 55 = .ok (.aload_n 0, 1) := by decide +kernel
theorem kRW_finish_d56 : decode prog_14_method_6_code 56 = .ok (.iload 4, 2) := by decide +kernel
theorem kRW_finish_d58 : decode prog_14_method_6_code 58 = .ok (.iload_n 3, 1) := by decide +kernel
theorem kRW_finish_d59 : decode prog_14_method_6_code 59 = .ok (.iadd, 1) := by decide +kernel
theorem kRW_finish_d60 : decode prog_14_method_6_code 60 = .ok (.iconst 1, 1) := by decide +kernel
theorem kRW_finish_d61 : decode prog_14_method_6_code 61 = .ok (.iadd, 1) := by decide +kernel
theorem kRW_finish_d62 : decode prog_14_method_6_code 62 = .ok (.putfield 13, 3) := by decide +kernel
theorem kRW_finish_d65 : decode prog_14_method_6_code 65 = .ok (.iload 4, 2) := by decide +kernel
theorem kRW_finish_d67 : decode prog_14_method_6_code 67 = .ok (.ireturn, 1) := by decide +kernel
theorem kRW_digits_d0 : decode prog_14_method_3_code 0 = .ok (.aload_n 0, 1) := by decide +kernel
theorem kRW_digits_d1 : decode prog_14_method_3_code 1 = .ok (.getfield 7, 3) := by decide +kernel
theorem kRW_digits_d4 : decode prog_14_method_3_code 4 = .ok (.iload_n 1, 1) := by decide +kernel
theorem kRW_digits_d5 : decode prog_14_method_3_code 5 = .ok (.iaload, 1) := by decide +kernel
theorem kRW_digits_d6 : decode prog_14_method_3_code 6 = .ok (.ifCond .ge 13, 3) := by decide +kernel
theorem kRW_digits_d9 : decode prog_14_method_3_code 9 = .ok (.aload_n 0, 1) := by decide +kernel
theorem kRW_digits_d10 : decode prog_14_method_3_code 10 = .ok (.getfield 7, 3) := by decide +kernel
theorem kRW_digits_d13 : decode prog_14_method_3_code 13 = .ok (.iload_n 1, 1) := by decide +kernel
theorem kRW_digits_d14 : decode prog_14_method_3_code 14 = .ok (.iaload, 1) := by decide +kernel
theorem kRW_digits_d15 : decode prog_14_method_3_code 15 = .ok (.ineg, 1) := by decide +kernel
theorem kRW_digits_d16 : decode prog_14_method_3_code 16 = .ok (.goto 9, 3) := by decide +kernel
theorem kRW_digits_d19 : decode prog_14_method_3_code 19 = .ok (.aload_n 0, 1) := by decide +kernel
theorem kRW_digits_d20 : decode prog_14_method_3_code 20 = .ok (.getfield 7, 3) := by decide +kernel
theorem kRW_digits_d23 : decode prog_14_method_3_code 23 = .ok (.iload_n 1, 1) := by decide +kernel
theorem kRW_digits_d24 : decode prog_14_method_3_code 24 = .ok (.iaload, 1) := by decide +kernel
theorem kRW_digits_d25 : decode prog_14_method_3_code 25 = .ok (.ireturn, 1) := by decide +kernel
theorem kRW_multiply_d0 : decode prog_14_method_19_code 0 = .ok (.aload_n 0, 1) := by decide +kernel
theorem kRW_multiply_d1 : decode prog_14_method_19_code 1 = .ok (.iload_n 1, 1) := by decide +kernel
theorem kRW_multiply_d2 : decode prog_14_method_19_code 2 = .ok (.invokevirtual 23, 3) := by decide +kernel
theorem kRW_multiply_d5 : decode prog_14_method_19_code 5 = .ok (.istore_n 3, 1) := by decide +kernel
theorem kRW_multiply_d6 : decode prog_14_method_19_code 6 = .ok (.aload_n 0, 1) := by decide +kernel
theorem kRW_multiply_d7 : decode prog_14_method_19_code 7 = .ok (.iload_n 2, 1) := by decide +kernel
theorem kRW_multiply_d8 : decode prog_14_method_19_code 8 = .ok (.invokevirtual 23, 3) := by decide +kernel
theorem kRW_multiply_d11 : decode prog_14_method_19_code 11 = .ok (.istore 4, 2) := by decide +kernel
theorem kRW_multiply_d13 : decode prog_14_method_19_code 13 = .ok (.aload_n 0, 1) := by decide +kernel
theorem kRW_multiply_d14 : decode prog_14_method_19_code 14 = .ok (.iload_n 3, 1) := by decide +kernel
theorem kRW_multiply_d15 : decode prog_14_method_19_code 15 = .ok (.iload 4, 2) := by decide +kernel
theorem kRW_multiply_d17 : decode prog_14_method_19_code 17 = .ok (.iadd, 1) := by decide +kernel
theorem kRW_multiply_d18 : decode prog_14_method_19_code 18 = .ok (.iconst 1, 1) := by decide +kernel
theorem kRW_multiply_d19 : decode prog_14_method_19_code 19 = .ok (.iadd, 1) := by decide +kernel
theorem kRW_multiply_d20 : decode prog_14_method_19_code 20 = .ok (.invokevirtual 27, 3) := by decide +kernel
theorem kRW_multiply_d23 : decode prog_14_method_19_code 23 = .ok (.iconst 1, 1) := by decide +kernel
theorem kRW_multiply_d24 : decode prog_14_method_19_code 24 = .ok (.istore 5, 2) := by decide +kernel
theorem kRW_multiply_d26 : decode prog_14_method_19_code 26 = .ok (.iload 5, 2) := by decide +kernel
theorem kRW_multiply_d28 : decode prog_14_method_19_code 28 = .ok (.iload_n 3, 1) := by decide +kernel
theorem kRW_multiply_d29 : decode prog_14_method_19_code 29 = .ok (.iload 4, 2) := by decide +kernel
theorem kRW_multiply_d31 : decode prog_14_method_19_code 31 = .ok (.iadd, 1) := by decide +kernel
theorem kRW_multiply_d32 : decode prog_14_method_19_code 32 = .ok (.if_icmp .gt 22, 3) := by decide +kernel
theorem kRW_multiply_d35 : decode prog_14_method_19_code 35 = .ok (.aload_n 0, 1) := by decide +kernel
theorem kRW_multiply_d36 : decode prog_14_method_19_code 36 = .ok (.getfield 7, 3) := by decide +kernel
theorem kRW_multiply_d39 : decode prog_14_method_19_code 39 = .ok (.aload_n 0, 1) := by decide +kernel
theorem kRW_multiply_d40 : decode prog_14_method_19_code 40 = .ok (.getfield 13, 3) := by decide +kernel
theorem kRW_multiply_d43 : decode prog_14_method_19_code 43 = .ok (.iload 5, 2) := by decide +kernel
theorem kRW_multiply_d45 : decode prog_14_method_19_code 45 = .ok (.iadd, 1) := by decide +kernel
theorem kRW_multiply_d46 : decode prog_14_method_19_code 46 = .ok (.iconst 0, 1) := by decide +kernel
theorem kRW_multiply_d47 : decode prog_14_method_19_code 47 = .ok (.iastore, 1) := by decide +kernel
theorem kRW_multiply_d48 : decode prog_14_method_19_code 48 = .ok (.iinc 5 1, 3) := by decide +kernel
theorem kRW_multiply_d51 : decode prog_14_method_19_code 51 = .ok (.goto (-25), 3) := by decide +kernel
theorem kRW_multiply_d54 : decode prog_14_method_19_code 54 = .ok (.iconst 1, 1) := by decide +kernel
theorem kRW_multiply_d55 : decode prog_14_method_19_code 55 = .ok (.istore 5, 2) := by decide +kernel
theorem kRW_multiply_d57 : decode prog_14_method_19_code 57 = .ok (.iload 5, 2) := by decide +kernel
theorem kRW_multiply_d59 : decode prog_14_method_19_code 59 = .ok (.iload_n 3, 1) := by decide +kernel
theorem kRW_multiply_d60 : decode prog_14_method_19_code 60 = .ok (.if_icmp .gt 127, 3) := by decide +kernel
theorem kRW_multiply_d63 : decode prog_14_method_19_code 63 = .ok (.lconst 0, 1) := by decide +kernel
theorem kRW_multiply_d64 : decode prog_14_method_19_code 64 = .ok (.lstore 6, 2) := by decide +kernel
theorem kRW_multiply_d66 : decode prog_14_method_19_code 66 = .ok (.aload_n 0, 1) := by decide +kernel
theorem kRW_multiply_d67 : decode prog_14_method_19_code 67 = .ok (.getfield 7, 3) := by decide +kernel
theorem kRW_multiply_d70 : decode prog_14_method_19_code 70 = .ok (.iload_n 1, 1) := by decide +kernel
theorem kRW_multiply_d71 : decode prog_14_method_19_code 71 = .ok (.iload 5, 2) := by decide +kernel
theorem kRW_multiply_d73 : decode prog_14_method_19_code 73 = .ok (.iadd, 1) := by decide +kernel
theorem kRW_multiply_d74 : decode prog_14_method_19_code 74 = .ok (.iaload, 1) := by decide +kernel
theorem kRW_multiply_d75 : decode prog_14_method_19_code 75 = .ok (.i2l, 1) := by decide +kernel
theorem kRW_multiply_d76 : decode prog_14_method_19_code 76 = .ok (.lstore 8, 2) := by decide +kernel
theorem kRW_multiply_d78 : decode prog_14_method_19_code 78 = .ok (.iconst 1, 1) := by decide +kernel
theorem kRW_multiply_d79 : decode prog_14_method_19_code 79 = .ok (.istore 10, 2) := by decide +kernel
theorem kRW_multiply_d81 : decode prog_14_method_19_code 81 = .ok (.iload 10, 2) := by decide +kernel
theorem kRW_multiply_d83 : decode prog_14_method_19_code 83 = .ok (.iload 4, 2) := by decide +kernel
theorem kRW_multiply_d85 : decode prog_14_method_19_code 85 = .ok (.if_icmp .gt 78, 3) := by decide +kernel
theorem kRW_multiply_d88 : decode prog_14_method_19_code 88 = .ok (.lload 6, 2) := by decide +kernel
theorem kRW_multiply_d90 : decode prog_14_method_19_code 90 = .ok (.aload_n 0, 1) := by decide +kernel
theorem kRW_multiply_d91 : decode prog_14_method_19_code 91 = .ok (.getfield 7, 3) := by decide +kernel
theorem kRW_multiply_d94 : decode prog_14_method_19_code 94 = .ok (.aload_n 0, 1) := by decide +kernel
theorem kRW_multiply_d95 : decode prog_14_method_19_code 95 = .ok (.getfield 13, 3) := by decide +kernel
theorem kRW_multiply_d98 : decode prog_14_method_19_code 98 = .ok (.iload 5, 2) := by decide +kernel
theorem kRW_multiply_d100 : decode prog_14_method_19_code 100 = .ok (.iadd, 1) := by decide +kernel
theorem kRW_multiply_d101 : decode prog_14_method_19_code 101 = .ok (.iload 10, 2) := by decide +kernel
theorem kRW_multiply_d103 : decode prog_14_method_19_code 103 = .ok (.iadd, 1) := by decide +kernel
theorem kRW_multiply_d104 : decode prog_14_method_19_code 104 = .ok (.iconst 1, 1) := by decide +kernel
theorem kRW_multiply_d105 : decode prog_14_method_19_code 105 = .ok (.isub, 1) := by decide +kernel
theorem kRW_multiply_d106 : decode prog_14_method_19_code 106 = .ok (.iaload, 1) := by decide +kernel
theorem kRW_multiply_d107 : decode prog_14_method_19_code 107 = .ok (.i2l, 1) := by decide +kernel
theorem kRW_multiply_d108 : decode prog_14_method_19_code 108 = .ok (.lload 8, 2) := by decide +kernel
theorem kRW_multiply_d110 : decode prog_14_method_19_code 110 = .ok (.aload_n 0, 1) := by decide +kernel
theorem kRW_multiply_d111 : decode prog_14_method_19_code 111 = .ok (.getfield 7, 3) := by decide +kernel
theorem kRW_multiply_d114 : decode prog_14_method_19_code 114 = .ok (.iload_n 2, 1) := by decide +kernel
theorem kRW_multiply_d115 : decode prog_14_method_19_code 115 = .ok (.iload 10, 2) := by decide +kernel
theorem kRW_multiply_d117 : decode prog_14_method_19_code 117 = .ok (.iadd, 1) := by decide +kernel
theorem kRW_multiply_d118 : decode prog_14_method_19_code 118 = .ok (.iaload, 1) := by decide +kernel
theorem kRW_multiply_d119 : decode prog_14_method_19_code 119 = .ok (.i2l, 1) := by decide +kernel
theorem kRW_multiply_d120 : decode prog_14_method_19_code 120 = .ok (.lmul, 1) := by decide +kernel
theorem kRW_multiply_d121 : decode prog_14_method_19_code 121 = .ok (.ladd, 1) := by decide +kernel
theorem kRW_multiply_d122 : decode prog_14_method_19_code 122 = .ok (.ladd, 1) := by decide +kernel
theorem kRW_multiply_d123 : decode prog_14_method_19_code 123 = .ok (.lstore 6, 2) := by decide +kernel
theorem kRW_multiply_d125 : decode prog_14_method_19_code 125 = .ok (.aload_n 0, 1) := by decide +kernel
theorem kRW_multiply_d126 : decode prog_14_method_19_code 126 = .ok (.getfield 7, 3) := by decide +kernel
theorem kRW_multiply_d129 : decode prog_14_method_19_code 129 = .ok (.aload_n 0, 1) := by decide +kernel
theorem kRW_multiply_d130 : decode prog_14_method_19_code 130 = .ok (.getfield 13, 3) := by decide +kernel
theorem kRW_multiply_d133 : decode prog_14_method_19_code 133 = .ok (.iload 5, 2) := by decide +kernel
theorem kRW_multiply_d135 : decode prog_14_method_19_code 135 = .ok (.iadd, 1) := by decide +kernel
theorem kRW_multiply_d136 : decode prog_14_method_19_code 136 = .ok (.iload 10, 2) := by decide +kernel
theorem kRW_multiply_d138 : decode prog_14_method_19_code 138 = .ok (.iadd, 1) := by decide +kernel
theorem kRW_multiply_d139 : decode prog_14_method_19_code 139 = .ok (.iconst 1, 1) := by decide +kernel
theorem kRW_multiply_d140 : decode prog_14_method_19_code 140 = .ok (.isub, 1) := by decide +kernel
theorem kRW_multiply_d141 : decode prog_14_method_19_code 141 = .ok (.lload 6, 2) := by decide +kernel
theorem kRW_multiply_d143 : decode prog_14_method_19_code 143 = .ok (.ldc2_w 31, 3) := by decide +kernel
theorem kRW_multiply_d146 : decode prog_14_method_19_code 146 = .ok (.lrem, 1) := by decide +kernel
theorem kRW_multiply_d147 : decode prog_14_method_19_code 147 = .ok (.l2i, 1) := by decide +kernel
theorem kRW_multiply_d148 : decode prog_14_method_19_code 148 = .ok (.iastore, 1) := by decide +kernel
theorem kRW_multiply_d149 : decode prog_14_method_19_code 149 = .ok (.lload 6, 2) := by decide +kernel
theorem kRW_multiply_d151 : decode prog_14_method_19_code 151 = .ok (.ldc2_w 31, 3) := by decide +kernel
theorem kRW_multiply_d154 : decode prog_14_method_19_code 154 = .ok (.ldiv, 1) := by decide +kernel
theorem kRW_multiply_d155 : decode prog_14_method_19_code 155 = .ok (.lstore 6, 2) := by decide +kernel
theorem kRW_multiply_d157 : decode prog_14_method_19_code 157 = .ok (.iinc 10 1, 3) := by decide +kernel
theorem kRW_multiply_d160 : decode prog_14_method_19_code 160 = .ok (.goto (-79), 3) := by decide +kernel
theorem kRW_multiply_d163 : decode prog_14_method_19_code 163 = .ok (.aload_n 0, 1) := by decide +kernel
theorem kRW_multiply_d164 : decode prog_14_method_19_code 164 = .ok (.getfield 7, 3) := by decide +kernel
theorem kRW_multiply_d167 : decode prog_14_method_19_code 167 = .ok (.aload_n 0, 1) := by decide +kernel
theorem kRW_multiply_d168 : decode prog_14_method_19_code 168 = .ok (.getfield 13, 3) := by decide +kernel
theorem kRW_multiply_d171 : decode prog_14_method_19_code 171 = .ok (.iload 5, 2) := by decide +kernel
theorem kRW_multiply_d173 : decode prog_14_method_19_code 173 = .ok (.iadd, 1) := by decide +kernel
theorem kRW_multiply_d174 : decode prog_14_method_19_code 174 = .ok (.iload 4, 2) := by decide +kernel
theorem kRW_multiply_d176 : decode prog_14_method_19_code 176 = .ok (.iadd, 1) := by decide +kernel
theorem kRW_multiply_d177 : decode prog_14_method_19_code 177 = .ok (.lload 6, 2) := by decide +kernel
theorem kRW_multiply_d179 : decode prog_14_method_19_code 179 = .ok (.l2i, 1) := by decide +kernel
theorem kRW_multiply_d180 : decode prog_14_method_19_code 180 = .ok (.iastore, 1) := by decide +kernel
theorem kRW_multiply_d181 : decode prog_14_method_19_code 181 = .ok (.iinc 5 1, 3) := by decide +kernel
theorem kRW_multiply_d184 : decode prog_14_method_19_code 184 = .ok (.goto (-127), 3) := by decide +kernel
theorem kRW_multiply_d187 : decode prog_14_method_19_code 187 = .ok (.aload_n 0, 1) := by decide +kernel
theorem kRW_multiply_d188 : decode prog_14_method_19_code 188 = .ok (.iload_n 3, 1) := by decide +kernel
theorem kRW_multiply_d189 : decode prog_14_method_19_code 189 = .ok (.iload 4, 2) := by decide +kernel
theorem kRW_multiply_d191 : decode prog_14_method_19_code 191 = .ok (.iadd, 1) := by decide +kernel
theorem kRW_multiply_d192 : decode prog_14_method_19_code 192 = .ok (.aload_n 0, 1) := by decide +kernel
theorem kRW_multiply_d193 : decode prog_14_method_19_code 193 = .ok (.getfield 7, 3) := by decide +kernel
theorem kRW_multiply_d196 : decode prog_14_method_19_code 196 = .ok (.iload_n 1, 1) := by decide +kernel
theorem kRW_multiply_d197 : decode prog_14_method_19_code 197 = .ok (.iaload, 1) := by decide +kernel
theorem kRW_multiply_d198 : decode prog_14_method_19_code 198 = .ok (.ifCond .ge 7, 3) := by decide +kernel
theorem kRW_multiply_d201 : decode prog_14_method_19_code 201 = .ok (.iconst 1, 1) := by decide +kernel
theorem kRW_multiply_d202 : decode prog_14_method_19_code 202 = .ok (.goto 4, 3) := by decide +kernel
theorem kRW_multiply_d205 : decode prog_14_method_19_code 205 = .ok (.iconst 0, 1) := by decide +kernel
theorem kRW_multiply_d206 : decode prog_14_method_19_code 206 = .ok (.aload_n 0, 1) := by decide +kernel
theorem kRW_multiply_d207 : decode prog_14_method_19_code 207 = .ok (.getfield 7, 3) := by decide +kernel
theorem kRW_multiply_d210 : decode prog_14_method_19_code 210 = .ok (.iload_n 2, 1) := by decide +kernel
theorem kRW_multiply_d211 : decode prog_14_method_19_code 211 = .ok (.iaload, 1) := by decide +kernel
theorem kRW_multiply_d212 : decode prog_14_method_19_code 212 = .ok (.ifCond .ge 7, 3) := by decide +kernel
theorem kRW_multiply_d215 : decode prog_14_method_19_code 215 = .ok (.iconst 1, 1) := by decide +kernel
theorem kRW_multiply_d216 : decode prog_14_method_19_code 216 = .ok (.goto 4, 3) := by decide +kernel
theorem kRW_multiply_d219 : decode prog_14_method_19_code 219 = .ok (.iconst 0, 1) := by decide +kernel
theorem kRW_multiply_d220 : decode prog_14_method_19_code 220 = .ok (.if_icmp .eq 7, 3) := by decide +kernel
theorem kRW_multiply_d223 : decode prog_14_method_19_code 223 = .ok (.iconst 1, 1) := by decide +kernel
theorem kRW_multiply_d224 : decode prog_14_method_19_code 224 = .ok (.goto 4, 3) := by decide +kernel
theorem kRW_multiply_d227 : decode prog_14_method_19_code 227 = .ok (.iconst 0, 1) := by decide +kernel
theorem kRW_multiply_d228 : decode prog_14_method_19_code 228 = .ok (.invokevirtual 33, 3) := by decide +kernel
theorem kRW_multiply_d231 : decode prog_14_method_19_code 231 = .ok (.ireturn, 1) := by decide +kernel
theorem kRW_common_d0 : decode prog_14_method_23_code 0 = .ok (.aload_n 0, 1) := by decide +kernel
theorem kRW_common_d1 : decode prog_14_method_23_code 1 = .ok (.getfield 13, 3) := by decide +kernel
theorem kRW_common_d4 : decode prog_14_method_23_code 4 = .ok (.istore_n 3, 1) := by decide +kernel
theorem kRW_common_d5 : decode prog_14_method_23_code 5 = .ok (.aload_n 0, 1) := by decide +kernel
theorem kRW_common_d6 : decode prog_14_method_23_code 6 = .ok (.iload_n 1, 1) := by decide +kernel
theorem kRW_common_d7 : decode prog_14_method_23_code 7 = .ok (.invokevirtual 93, 3) := by decide +kernel
theorem kRW_common_d10 : decode prog_14_method_23_code 10 = .ok (.istore 4, 2) := by decide +kernel
theorem kRW_common_d12 : decode prog_14_method_23_code 12 = .ok (.aload_n 0, 1) := by decide +kernel
theorem kRW_common_d13 : decode prog_14_method_23_code 13 = .ok (.iload_n 2, 1) := by decide +kernel
theorem kRW_common_d14 : decode prog_14_method_23_code 14 = .ok (.invokevirtual 93, 3) := by decide +kernel
theorem kRW_common_d17 : decode prog_14_method_23_code 17 = .ok (.istore 5, 2) := by decide +kernel
theorem kRW_common_d19 : decode prog_14_method_23_code 19 = .ok (.iload 5, 2) := by decide +kernel
theorem kRW_common_d21 : decode prog_14_method_23_code 21 = .ok (.ifCond .eq 98, 3) := by decide +kernel
theorem kRW_common_d24 : decode prog_14_method_23_code 24 = .ok (.aload_n 0, 1) := by decide +kernel
theorem kRW_common_d25 : decode prog_14_method_23_code 25 = .ok (.iload 4, 2) := by decide +kernel
theorem kRW_common_d27 : decode prog_14_method_23_code 27 = .ok (.iload 5, 2) := by decide +kernel
theorem kRW_common_d29 : decode prog_14_method_23_code 29 = .ok (.invokevirtual 96, 3) := by decide +kernel
theorem kRW_common_d32 : decode prog_14_method_23_code 32 = .ok (.pop, 1) := by decide +kernel
theorem kRW_common_d33 : decode prog_14_method_23_code 33 = .ok (.aload_n 0, 1) := by decide +kernel
theorem kRW_common_d34 : decode prog_14_method_23_code 34 = .ok (.getfield 90, 3) := by decide +kernel
theorem kRW_common_d37 : decode prog_14_method_23_code 37 = .ok (.istore 6, 2) := by decide +kernel
theorem kRW_common_d39 : decode prog_14_method_23_code 39 = .ok (.iload 5, 2) := by decide +kernel
theorem kRW_common_d41 : decode prog_14_method_23_code 41 = .ok (.istore 4, 2) := by decide +kernel
theorem kRW_common_d43 : decode prog_14_method_23_code 43 = .ok (.iload 6, 2) := by decide +kernel
theorem kRW_common_d45 : decode prog_14_method_23_code 45 = .ok (.istore 5, 2) := by decide +kernel
theorem kRW_common_d47 : decode prog_14_method_23_code 47 = .ok (.aload_n 0, 1) := by decide +kernel
theorem kRW_common_d48 : decode prog_14_method_23_code 48 = .ok (.getfield 13, 3) := by decide +kernel
theorem kRW_common_d51 : decode prog_14_method_23_code 51 = .ok (.iload_n 3, 1) := by decide +kernel
theorem kRW_common_d52 : decode prog_14_method_23_code 52 = .ok (.isub, 1) := by decide +kernel
theorem kRW_common_d53 : decode prog_14_method_23_code 53 = .ok (.sipush 20000, 3) := by decide +kernel
theorem kRW_common_d56 : decode prog_14_method_23_code 56 = .ok (.if_icmp .le 60, 3) := by decide +kernel
theorem kRW_common_d59 : decode prog_14_method_23_code 59 = .ok (.aload_n 0, 1) := by decide +kernel
theorem kRW_common_d60 : decode prog_14_method_23_code 60 = .ok (.iload 4, 2) := by decide +kernel
theorem kRW_common_d62 : decode prog_14_method_23_code 62 = .ok (.invokevirtual 37, 3) := by decide +kernel
theorem kRW_common_d65 : decode prog_14_method_23_code 65 = .ok (.istore 7, 2) := by decide +kernel
theorem kRW_common_d67 : decode prog_14_method_23_code 67 = .ok (.aload_n 0, 1) := by decide +kernel
theorem kRW_common_d68 : decode prog_14_method_23_code 68 = .ok (.iload 5, 2) := by decide +kernel
theorem kRW_common_d70 : decode prog_14_method_23_code 70 = .ok (.invokevirtual 37, 3) := by decide +kernel
theorem kRW_common_d73 : decode prog_14_method_23_code 73 = .ok (.istore 8, 2) := by decide +kernel
theorem kRW_common_d75 : decode prog_14_method_23_code 75 = .ok (.aload_n 0, 1) := by decide +kernel
theorem kRW_common_d76 : decode prog_14_method_23_code 76 = .ok (.iload 7, 2) := by decide +kernel
theorem kRW_common_d78 : decode prog_14_method_23_code 78 = .ok (.iload_n 3, 1) := by decide +kernel
theorem kRW_common_d79 : decode prog_14_method_23_code 79 = .ok (.invokevirtual 99, 3) := by decide +kernel
theorem kRW_common_d82 : decode prog_14_method_23_code 82 = .ok (.istore 4, 2) := by decide +kernel
theorem kRW_common_d84 : decode prog_14_method_23_code 84 = .ok (.iload 4, 2) := by decide +kernel
theorem kRW_common_d86 : decode prog_14_method_23_code 86 = .ok (.ifCond .le 17, 3) := by decide +kernel
theorem kRW_common_d89 : decode prog_14_method_23_code 89 = .ok (.iload 4, 2) := by decide +kernel
theorem kRW_common_d91 : decode prog_14_method_23_code 91 = .ok (.aload_n 0, 1) := by decide +kernel
theorem kRW_common_d92 : decode prog_14_method_23_code 92 = .ok (.iload 4, 2) := by decide +kernel
theorem kRW_common_d94 : decode prog_14_method_23_code 94 = .ok (.invokevirtual 23, 3) := by decide +kernel
theorem kRW_common_d97 : decode prog_14_method_23_code 97 = .ok (.iadd, 1) := by decide +kernel
theorem kRW_common_d98 : decode prog_14_method_23_code 98 = .ok (.iconst 1, 1) := by decide +kernel
theorem kRW_common_d99 : decode prog_14_method_23_code 99 = .ok (.iadd, 1) := by decide +kernel
theorem kRW_common_d100 : decode prog_14_method_23_code 100 = .ok (.goto 4, 3) := by decide +kernel
theorem kRW_common_d103 : decode prog_14_method_23_code 103 = .ok (.iload_n 3, 1) := by decide +kernel
theorem kRW_common_d104 : decode prog_14_method_23_code 104 = .ok (.istore 9, 2) := by decide +kernel
theorem kRW_common_d106 : decode prog_14_method_23_code 106 = .ok (.aload_n 0, 1) := by decide +kernel
theorem kRW_common_d107 : decode prog_14_method_23_code 107 = .ok (.iload 8, 2) := by decide +kernel
theorem kRW_common_d109 : decode prog_14_method_23_code 109 = .ok (.iload 9, 2) := by decide +kernel
theorem kRW_common_d111 : decode prog_14_method_23_code 111 = .ok (.invokevirtual 99, 3) := by decide +kernel
theorem kRW_common_d114 : decode prog_14_method_23_code 114 = .ok (.istore 5, 2) := by decide +kernel
theorem kRW_common_d116 : decode prog_14_method_23_code 116 = .ok (.goto (-97), 3) := by decide +kernel
theorem kRW_common_d119 : decode prog_14_method_23_code 119 = .ok (.aload_n 0, 1) := by decide +kernel
theorem kRW_common_d120 : decode prog_14_method_23_code 120 = .ok (.aload_n 0, 1) := by decide +kernel
theorem kRW_common_d121 : decode prog_14_method_23_code 121 = .ok (.iload 4, 2) := by decide +kernel
theorem kRW_common_d123 : decode prog_14_method_23_code 123 = .ok (.invokevirtual 37, 3) := by decide +kernel
theorem kRW_common_d126 : decode prog_14_method_23_code 126 = .ok (.iload_n 3, 1) := by decide +kernel
theorem kRW_common_d127 : decode prog_14_method_23_code 127 = .ok (.invokevirtual 99, 3) := by decide +kernel
theorem kRW_common_d130 : decode prog_14_method_23_code 130 = .ok (.ireturn, 1) := by decide +kernel
theorem kRW_size_d0 : decode prog_14_method_11_code 0 = .ok (.aload_n 0, 1) := by decide +kernel
theorem kRW_size_d1 : decode prog_14_method_11_code 1 = .ok (.getfield 7, 3) := by decide +kernel
theorem kRW_size_d4 : decode prog_14_method_11_code 4 = .ok (.iload_n 1, 1) := by decide +kernel
theorem kRW_size_d5 : decode prog_14_method_11_code 5 = .ok (.iaload, 1) := by decide +kernel
theorem kRW_size_d6 : decode prog_14_method_11_code 6 = .ok (.ifCond .ge 11, 3) := by decide +kernel
theorem kRW_size_d9 : decode prog_14_method_11_code 9 = .ok (.aload_n 0, 1) := by decide +kernel
theorem kRW_size_d10 : decode prog_14_method_11_code 10 = .ok (.iload_n 1, 1) := by decide +kernel
theorem kRW_size_d11 : decode prog_14_method_11_code 11 = .ok (.invokevirtual 40, 3) := by decide +kernel
theorem kRW_size_d14 : decode prog_14_method_11_code 14 = .ok (.goto 4, 3) := by decide +kernel
theorem kRW_size_d17 : decode prog_14_method_11_code 17 = .ok (.iload_n 1, 1) := by decide +kernel
theorem kRW_size_d18 : decode prog_14_method_11_code 18 = .ok (.ireturn, 1) := by decide +kernel
theorem kRW_negative_d0 : decode prog_14_method_10_code 0 = .ok (.aload_n 0, 1) := by decide +kernel
theorem kRW_negative_d1 : decode prog_14_method_10_code 1 = .ok (.iload_n 1, 1) := by decide +kernel
theorem kRW_negative_d2 : decode prog_14_method_10_code 2 = .ok (.invokevirtual 37, 3) := by decide +kernel
theorem kRW_negative_d5 : decode prog_14_method_10_code 5 = .ok (.istore_n 2, 1) := by decide +kernel
theorem kRW_negative_d6 : decode prog_14_method_10_code 6 = .ok (.iload_n 2, 1) := by decide +kernel
theorem kRW_negative_d7 : decode prog_14_method_10_code 7 = .ok (.ifCond .le 16, 3) := by decide +kernel
theorem kRW_negative_d10 : decode prog_14_method_10_code 10 = .ok (.aload_n 0, 1) := by decide +kernel
theorem kRW_negative_d11 : decode prog_14_method_10_code 11 = .ok (.getfield 7, 3) := by decide +kernel
theorem kRW_negative_d14 : decode prog_14_method_10_code 14 = .ok (.iload_n 2, 1) := by decide +kernel
theorem kRW_negative_d15 : decode prog_14_method_10_code 15 = .ok (.aload_n 0, 1) := by decide +kernel
theorem kRW_negative_d16 : decode prog_14_method_10_code 16 = .ok (.getfield 7, 3) := by decide +kernel
theorem kRW_negative_d19 : decode prog_14_method_10_code 19 = .ok (.iload_n 2, 1) := by decide +kernel
theorem kRW_negative_d20 : decode prog_14_method_10_code 20 = .ok (.iaload, 1) := by decide +kernel
theorem kRW_negative_d21 : decode prog_14_method_10_code 21 = .ok (.ineg, 1) := by decide +kernel
theorem kRW_negative_d22 : decode prog_14_method_10_code 22 = .ok (.iastore, 1) := by decide +kernel
theorem kRW_negative_d23 : decode prog_14_method_10_code 23 = .ok (.iload_n 2, 1) := by decide +kernel
theorem kRW_negative_d24 : decode prog_14_method_10_code 24 = .ok (.ireturn, 1) := by decide +kernel
theorem kRW_copy_d0 : decode prog_14_method_9_code 0 = .ok (.aload_n 0, 1) := by decide +kernel
theorem kRW_copy_d1 : decode prog_14_method_9_code 1 = .ok (.iload_n 1, 1) := by decide +kernel
theorem kRW_copy_d2 : decode prog_14_method_9_code 2 = .ok (.invokevirtual 23, 3) := by decide +kernel
theorem kRW_copy_d5 : decode prog_14_method_9_code 5 = .ok (.istore_n 2, 1) := by decide +kernel
theorem kRW_copy_d6 : decode prog_14_method_9_code 6 = .ok (.aload_n 0, 1) := by decide +kernel
theorem kRW_copy_d7 : decode prog_14_method_9_code 7 = .ok (.iload_n 2, 1) := by decide +kernel
theorem kRW_copy_d8 : decode prog_14_method_9_code 8 = .ok (.iconst 1, 1) := by decide +kernel
theorem kRW_copy_d9 : decode prog_14_method_9_code 9 = .ok (.iadd, 1) := by decide +kernel
theorem kRW_copy_d10 : decode prog_14_method_9_code 10 = .ok (.invokevirtual 27, 3) := by decide +kernel
theorem kRW_copy_d13 : decode prog_14_method_9_code 13 = .ok (.iconst 1, 1) := by decide +kernel
theorem kRW_copy_d14 : decode prog_14_method_9_code 14 = .ok (.istore_n 3, 1) := by decide +kernel
theorem kRW_copy_d15 : decode prog_14_method_9_code 15 = .ok (.iload_n 3, 1) := by decide +kernel
theorem kRW_copy_d16 : decode prog_14_method_9_code 16 = .ok (.iload_n 2, 1) := by decide +kernel
theorem kRW_copy_d17 : decode prog_14_method_9_code 17 = .ok (.if_icmp .gt 28, 3) := by decide +kernel
theorem kRW_copy_d20 : decode prog_14_method_9_code 20 = .ok (.aload_n 0, 1) := by decide +kernel
theorem kRW_copy_d21 : decode prog_14_method_9_code 21 = .ok (.getfield 7, 3) := by decide +kernel
theorem kRW_copy_d24 : decode prog_14_method_9_code 24 = .ok (.aload_n 0, 1) := by decide +kernel
theorem kRW_copy_d25 : decode prog_14_method_9_code 25 = .ok (.getfield 13, 3) := by decide +kernel
theorem kRW_copy_d28 : decode prog_14_method_9_code 28 = .ok (.iload_n 3, 1) := by decide +kernel
theorem kRW_copy_d29 : decode prog_14_method_9_code 29 = .ok (.iadd, 1) := by decide +kernel
theorem kRW_copy_d30 : decode prog_14_method_9_code 30 = .ok (.aload_n 0, 1) := by decide +kernel
theorem kRW_copy_d31 : decode prog_14_method_9_code 31 = .ok (.getfield 7, 3) := by decide +kernel
theorem kRW_copy_d34 : decode prog_14_method_9_code 34 = .ok (.iload_n 1, 1) := by decide +kernel
theorem kRW_copy_d35 : decode prog_14_method_9_code 35 = .ok (.iload_n 3, 1) := by decide +kernel
theorem kRW_copy_d36 : decode prog_14_method_9_code 36 = .ok (.iadd, 1) := by decide +kernel
theorem kRW_copy_d37 : decode prog_14_method_9_code 37 = .ok (.iaload, 1) := by decide +kernel
theorem kRW_copy_d38 : decode prog_14_method_9_code 38 = .ok (.iastore, 1) := by decide +kernel
theorem kRW_copy_d39 : decode prog_14_method_9_code 39 = .ok (.iinc 3 1, 3) := by decide +kernel
theorem kRW_copy_d42 : decode prog_14_method_9_code 42 = .ok (.goto (-27), 3) := by decide +kernel
theorem kRW_copy_d45 : decode prog_14_method_9_code 45 = .ok (.aload_n 0, 1) := by decide +kernel
theorem kRW_copy_d46 : decode prog_14_method_9_code 46 = .ok (.iload_n 2, 1) := by decide +kernel
theorem kRW_copy_d47 : decode prog_14_method_9_code 47 = .ok (.aload_n 0, 1) := by decide +kernel
theorem kRW_copy_d48 : decode prog_14_method_9_code 48 = .ok (.getfield 7, 3) := by decide +kernel
theorem kRW_copy_d51 : decode prog_14_method_9_code 51 = .ok (.iload_n 1, 1) := by decide +kernel
theorem kRW_copy_d52 : decode prog_14_method_9_code 52 = .ok (.iaload, 1) := by decide +kernel
theorem kRW_copy_d53 : decode prog_14_method_9_code 53 = .ok (.ifCond .ge 7, 3) := by decide +kernel
theorem kRW_copy_d56 : decode prog_14_method_9_code 56 = .ok (.iconst 1, 1) := by decide +kernel
theorem kRW_copy_d57 : decode prog_14_method_9_code 57 = .ok (.goto 4, 3) := by decide +kernel
theorem kRW_copy_d60 : decode prog_14_method_9_code 60 = .ok (.iconst 0, 1) := by decide +kernel
theorem kRW_copy_d61 : decode prog_14_method_9_code 61 = .ok (.invokevirtual 33, 3) := by decide +kernel
theorem kRW_copy_d64 : decode prog_14_method_9_code 64 = .ok (.ireturn, 1) := by decide +kernel
theorem kRW_divide_d0 : decode prog_14_method_20_code 0 = .ok (.aload_n 0, 1) := by decide +kernel
theorem kRW_divide_d1 : decode prog_14_method_20_code 1 = .ok (.getfield 7, 3) := by decide +kernel
theorem kRW_divide_d4 : decode prog_14_method_20_code 4 = .ok (.iload_n 1, 1) := by decide +kernel
theorem kRW_divide_d5 : decode prog_14_method_20_code 5 = .ok (.iaload, 1) := by decide +kernel
theorem kRW_divide_d6 : decode prog_14_method_20_code 6 = .ok (.ifCond .ge 7, 3) := by decide +kernel
theorem kRW_divide_d9 : decode prog_14_method_20_code 9 = .ok (.iconst 1, 1) := by decide +kernel
theorem kRW_divide_d10 : decode prog_14_method_20_code 10 = .ok (.goto 4, 3) := by decide +kernel
theorem kRW_divide_d13 : decode prog_14_method_20_code 13 = .ok (.iconst 0, 1) := by decide +kernel
theorem kRW_divide_d14 : decode prog_14_method_20_code 14 = .ok (.istore_n 3, 1) := by decide +kernel
theorem kRW_divide_d15 : decode prog_14_method_20_code 15 = .ok (.aload_n 0, 1) := by decide +kernel
theorem kRW_divide_d16 : decode prog_14_method_20_code 16 = .ok (.iload_n 1, 1) := by decide +kernel
theorem kRW_divide_d17 : decode prog_14_method_20_code 17 = .ok (.invokevirtual 23, 3) := by decide +kernel
theorem kRW_divide_d20 : decode prog_14_method_20_code 20 = .ok (.istore 4, 2) := by decide +kernel
theorem kRW_divide_d22 : decode prog_14_method_20_code 22 = .ok (.aload_n 0, 1) := by decide +kernel
theorem kRW_divide_d23 : decode prog_14_method_20_code 23 = .ok (.iload_n 2, 1) := by decide +kernel
theorem kRW_divide_d24 : decode prog_14_method_20_code 24 = .ok (.invokevirtual 23, 3) := by decide +kernel
theorem kRW_divide_d27 : decode prog_14_method_20_code 27 = .ok (.istore 5, 2) := by decide +kernel
theorem kRW_divide_d29 : decode prog_14_method_20_code 29 = .ok (.aload_n 0, 1) := by decide +kernel
theorem kRW_divide_d30 : decode prog_14_method_20_code 30 = .ok (.iconst 2, 1) := by decide +kernel
theorem kRW_divide_d31 : decode prog_14_method_20_code 31 = .ok (.iload 4, 2) := by decide +kernel
theorem kRW_divide_d33 : decode prog_14_method_20_code 33 = .ok (.imul, 1) := by decide +kernel
theorem kRW_divide_d34 : decode prog_14_method_20_code 34 = .ok (.iload 5, 2) := by decide +kernel
theorem kRW_divide_d36 : decode prog_14_method_20_code 36 = .ok (.iadd, 1) := by decide +kernel
theorem kRW_divide_d37 : decode prog_14_method_20_code 37 = .ok (.bipush 16, 2) := by decide +kernel
theorem kRW_divide_d39 : decode prog_14_method_20_code 39 = .ok (.iadd, 1) := by decide +kernel
theorem kRW_divide_d40 : decode prog_14_method_20_code 40 = .ok (.invokevirtual 27, 3) := by decide +kernel
theorem kRW_divide_d43 : decode prog_14_method_20_code 43 = .ok (.aload_n 0, 1) := by decide +kernel
theorem kRW_divide_d44 : decode prog_14_method_20_code 44 = .ok (.getfield 13, 3) := by decide +kernel
theorem kRW_divide_d47 : decode prog_14_method_20_code 47 = .ok (.istore 6, 2) := by decide +kernel
theorem kRW_divide_d49 : decode prog_14_method_20_code 49 = .ok (.iload 6, 2) := by decide +kernel
theorem kRW_divide_d51 : decode prog_14_method_20_code 51 = .ok (.iload 5, 2) := by decide +kernel
theorem kRW_divide_d53 : decode prog_14_method_20_code 53 = .ok (.iadd, 1) := by decide +kernel
theorem kRW_divide_d54 : decode prog_14_method_20_code 54 = .ok (.iconst 4, 1) := by decide +kernel
theorem kRW_divide_d55 : decode prog_14_method_20_code 55 = .ok (.iadd, 1) := by decide +kernel
theorem kRW_divide_d56 : decode prog_14_method_20_code 56 = .ok (.istore 7, 2) := by decide +kernel
theorem kRW_divide_d58 : decode prog_14_method_20_code 58 = .ok (.iconst 0, 1) := by decide +kernel
theorem kRW_divide_d59 : decode prog_14_method_20_code 59 = .ok (.istore 8, 2) := by decide +kernel
theorem kRW_divide_d61 : decode prog_14_method_20_code 61 = .ok (.iload 8, 2) := by decide +kernel
theorem kRW_divide_d63 : decode prog_14_method_20_code 63 = .ok (.iload 5, 2) := by decide +kernel
theorem kRW_divide_d65 : decode prog_14_method_20_code 65 = .ok (.iconst 2, 1) := by decide +kernel
theorem kRW_divide_d66 : decode prog_14_method_20_code 66 = .ok (.iadd, 1) := by decide +kernel
theorem kRW_divide_d67 : decode prog_14_method_20_code 67 = .ok (.if_icmp .gt 20, 3) := by decide +kernel
theorem kRW_divide_d70 : decode prog_14_method_20_code 70 = .ok (.aload_n 0, 1) := by decide +kernel
theorem kRW_divide_d71 : decode prog_14_method_20_code 71 = .ok (.getfield 7, 3) := by decide +kernel
theorem kRW_divide_d74 : decode prog_14_method_20_code 74 = .ok (.iload 6, 2) := by decide +kernel
theorem kRW_divide_d76 : decode prog_14_method_20_code 76 = .ok (.iload 8, 2) := by decide +kernel
theorem kRW_divide_d78 : decode prog_14_method_20_code 78 = .ok (.iadd, 1) := by decide +kernel
theorem kRW_divide_d79 : decode prog_14_method_20_code 79 = .ok (.iconst 0, 1) := by decide +kernel
theorem kRW_divide_d80 : decode prog_14_method_20_code 80 = .ok (.iastore, 1) := by decide +kernel
theorem kRW_divide_d81 : decode prog_14_method_20_code 81 = .ok (.iinc 8 1, 3) := by decide +kernel
theorem kRW_divide_d84 : decode prog_14_method_20_code 84 = .ok (.goto (-23), 3) := by decide +kernel
theorem kRW_divide_d87 : decode prog_14_method_20_code 87 = .ok (.iload 4, 2) := by decide +kernel
theorem kRW_divide_d89 : decode prog_14_method_20_code 89 = .ok (.iload 5, 2) := by decide +kernel
theorem kRW_divide_d91 : decode prog_14_method_20_code 91 = .ok (.iconst 1, 1) := by decide +kernel
theorem kRW_divide_d92 : decode prog_14_method_20_code 92 = .ok (.isub, 1) := by decide +kernel
theorem kRW_divide_d93 : decode prog_14_method_20_code 93 = .ok (.if_icmp .ge 8, 3) := by decide +kernel
theorem kRW_divide_d96 : decode prog_14_method_20_code 96 = .ok (.iload 4, 2) := by decide +kernel
theorem kRW_divide_d98 : decode prog_14_method_20_code 98 = .ok (.goto 7, 3) := by decide +kernel
theorem kRW_divide_d101 : decode prog_14_method_20_code 101 = .ok (.iload 5, 2) := by decide +kernel
theorem kRW_divide_d103 : decode prog_14_method_20_code 103 = .ok (.iconst 1, 1) := by decide +kernel
theorem kRW_divide_d104 : decode prog_14_method_20_code 104 = .ok (.isub, 1) := by decide +kernel
theorem kRW_divide_d105 : decode prog_14_method_20_code 105 = .ok (.istore 8, 2) := by decide +kernel
theorem kRW_divide_d107 : decode prog_14_method_20_code 107 = .ok (.iconst 1, 1) := by decide +kernel
theorem kRW_divide_d108 : decode prog_14_method_20_code 108 = .ok (.istore 9, 2) := by decide +kernel
theorem kRW_divide_d110 : decode prog_14_method_20_code 110 = .ok (.iload 9, 2) := by decide +kernel
theorem kRW_divide_d112 : decode prog_14_method_20_code 112 = .ok (.iload 8, 2) := by decide +kernel
theorem kRW_divide_d114 : decode prog_14_method_20_code 114 = .ok (.if_icmp .gt 51, 3) := by decide +kernel
theorem kRW_divide_d117 : decode prog_14_method_20_code 117 = .ok (.aload_n 0, 1) := by decide +kernel
theorem kRW_divide_d118 : decode prog_14_method_20_code 118 = .ok (.getfield 7, 3) := by decide +kernel
theorem kRW_divide_d121 : decode prog_14_method_20_code 121 = .ok (.iload 6, 2) := by decide +kernel
theorem kRW_divide_d123 : decode prog_14_method_20_code 123 = .ok (.iload 9, 2) := by decide +kernel
theorem kRW_divide_d125 : decode prog_14_method_20_code 125 = .ok (.iadd, 1) := by decide +kernel
theorem kRW_divide_d126 : decode prog_14_method_20_code 126 = .ok (.aload_n 0, 1) := by decide +kernel
theorem kRW_divide_d127 : decode prog_14_method_20_code 127 = .ok (.getfield 7, 3) := by decide +kernel
theorem kRW_divide_d130 : decode prog_14_method_20_code 130 = .ok (.iload_n 1, 1) := by decide +kernel
theorem kRW_divide_d131 : decode prog_14_method_20_code 131 = .ok (.iload 4, 2) := by decide +kernel
theorem kRW_divide_d133 : decode prog_14_method_20_code 133 = .ok (.iadd, 1) := by decide +kernel
theorem kRW_divide_d134 : decode prog_14_method_20_code 134 = .ok (.iload 8, 2) := by decide +kernel
theorem kRW_divide_d136 : decode prog_14_method_20_code 136 = .ok (.isub, 1) := by decide +kernel
theorem kRW_divide_d137 : decode prog_14_method_20_code 137 = .ok (.iload 9, 2) := by decide +kernel
theorem kRW_divide_d139 : decode prog_14_method_20_code 139 = .ok (.iadd, 1) := by decide +kernel
theorem kRW_divide_d140 : decode prog_14_method_20_code 140 = .ok (.iaload, 1) := by decide +kernel
theorem kRW_divide_d141 : decode prog_14_method_20_code 141 = .ok (.iastore, 1) := by decide +kernel
theorem kRW_divide_d142 : decode prog_14_method_20_code 142 = .ok (.aload_n 0, 1) := by decide +kernel
theorem kRW_divide_d143 : decode prog_14_method_20_code 143 = .ok (.getfield 7, 3) := by decide +kernel
theorem kRW_divide_d146 : decode prog_14_method_20_code 146 = .ok (.iload 7, 2) := by decide +kernel
theorem kRW_divide_d148 : decode prog_14_method_20_code 148 = .ok (.iload 4, 2) := by decide +kernel
theorem kRW_divide_d150 : decode prog_14_method_20_code 150 = .ok (.iadd, 1) := by decide +kernel
theorem kRW_divide_d151 : decode prog_14_method_20_code 151 = .ok (.iload 8, 2) := by decide +kernel
theorem kRW_divide_d153 : decode prog_14_method_20_code 153 = .ok (.isub, 1) := by decide +kernel
theorem kRW_divide_d154 : decode prog_14_method_20_code 154 = .ok (.iload 9, 2) := by decide +kernel
theorem kRW_divide_d156 : decode prog_14_method_20_code 156 = .ok (.iadd, 1) := by decide +kernel
theorem kRW_divide_d157 : decode prog_14_method_20_code 157 = .ok (.iconst 0, 1) := by decide +kernel
theorem kRW_divide_d158 : decode prog_14_method_20_code 158 = .ok (.iastore, 1) := by decide +kernel
theorem kRW_divide_d159 : decode prog_14_method_20_code 159 = .ok (.iinc 9 1, 3) := by decide +kernel
theorem kRW_divide_d162 : decode prog_14_method_20_code 162 = .ok (.goto (-52), 3) := by decide +kernel
theorem kRW_divide_d165 : decode prog_14_method_20_code 165 = .ok (.aload_n 0, 1) := by decide +kernel
theorem kRW_divide_d166 : decode prog_14_method_20_code 166 = .ok (.iload_n 2, 1) := by decide +kernel
theorem kRW_divide_d167 : decode prog_14_method_20_code 167 = .ok (.iconst 1, 1) := by decide +kernel
theorem kRW_divide_d168 : decode prog_14_method_20_code 168 = .ok (.iadd, 1) := by decide +kernel
theorem kRW_divide_d169 : decode prog_14_method_20_code 169 = .ok (.iload 5, 2) := by decide +kernel
theorem kRW_divide_d171 : decode prog_14_method_20_code 171 = .ok (.iload 5, 2) := by decide +kernel
theorem kRW_divide_d173 : decode prog_14_method_20_code 173 = .ok (.invokevirtual 69, 3) := by decide +kernel
theorem kRW_divide_d176 : decode prog_14_method_20_code 176 = .ok (.lstore 9, 2) := by decide +kernel
theorem kRW_divide_d178 : decode prog_14_method_20_code 178 = .ok (.iload 4, 2) := by decide +kernel
theorem kRW_divide_d180 : decode prog_14_method_20_code 180 = .ok (.iload 8, 2) := by decide +kernel
theorem kRW_divide_d182 : decode prog_14_method_20_code 182 = .ok (.isub, 1) := by decide +kernel
theorem kRW_divide_d183 : decode prog_14_method_20_code 183 = .ok (.istore 11, 2) := by decide +kernel
theorem kRW_divide_d185 : decode prog_14_method_20_code 185 = .ok (.iload 11, 2) := by decide +kernel
theorem kRW_divide_d187 : decode prog_14_method_20_code 187 = .ok (.ifCond .le 131, 3) := by decide +kernel
theorem kRW_divide_d190 : decode prog_14_method_20_code 190 = .ok (.iload 5, 2) := by decide +kernel
theorem kRW_divide_d192 : decode prog_14_method_20_code 192 = .ok (.iconst 1, 1) := by decide +kernel
theorem kRW_divide_d193 : decode prog_14_method_20_code 193 = .ok (.iadd, 1) := by decide +kernel
theorem kRW_divide_d194 : decode prog_14_method_20_code 194 = .ok (.istore 12, 2) := by decide +kernel
theorem kRW_divide_d196 : decode prog_14_method_20_code 196 = .ok (.iload 12, 2) := by decide +kernel
theorem kRW_divide_d198 : decode prog_14_method_20_code 198 = .ok (.iconst 1, 1) := by decide +kernel
theorem kRW_divide_d199 : decode prog_14_method_20_code 199 = .ok (.if_icmp .le 31, 3) := by decide +kernel
theorem kRW_divide_d202 : decode prog_14_method_20_code 202 = .ok (.aload_n 0, 1) := by decide +kernel
theorem kRW_divide_d203 : decode prog_14_method_20_code 203 = .ok (.getfield 7, 3) := by decide +kernel
theorem kRW_divide_d206 : decode prog_14_method_20_code 206 = .ok (.iload 6, 2) := by decide +kernel
theorem kRW_divide_d208 : decode prog_14_method_20_code 208 = .ok (.iload 12, 2) := by decide +kernel
theorem kRW_divide_d210 : decode prog_14_method_20_code 210 = .ok (.iadd, 1) := by decide +kernel
theorem kRW_divide_d211 : decode prog_14_method_20_code 211 = .ok (.aload_n 0, 1) := by decide +kernel
theorem kRW_divide_d212 : decode prog_14_method_20_code 212 = .ok (.getfield 7, 3) := by decide +kernel
theorem kRW_divide_d215 : decode prog_14_method_20_code 215 = .ok (.iload 6, 2) := by decide +kernel
theorem kRW_divide_d217 : decode prog_14_method_20_code 217 = .ok (.iload 12, 2) := by decide +kernel
theorem kRW_divide_d219 : decode prog_14_method_20_code 219 = .ok (.iadd, 1) := by decide +kernel
theorem kRW_divide_d220 : decode prog_14_method_20_code 220 = .ok (.iconst 1, 1) := by decide +kernel
theorem kRW_divide_d221 : decode prog_14_method_20_code 221 = .ok (.isub, 1) := by decide +kernel
theorem kRW_divide_d222 : decode prog_14_method_20_code 222 = .ok (.iaload, 1) := by decide +kernel
theorem kRW_divide_d223 : decode prog_14_method_20_code 223 = .ok (.iastore, 1) := by decide +kernel
theorem kRW_divide_d224 : decode prog_14_method_20_code 224 = .ok (.iinc 12 (-1), 3) := by decide +kernel
theorem kRW_divide_d227 : decode prog_14_method_20_code 227 = .ok (.goto (-31), 3) := by decide +kernel
theorem kRW_divide_d230 : decode prog_14_method_20_code 230 = .ok (.aload_n 0, 1) := by decide +kernel
theorem kRW_divide_d231 : decode prog_14_method_20_code 231 = .ok (.getfield 7, 3) := by decide +kernel
theorem kRW_divide_d234 : decode prog_14_method_20_code 234 = .ok (.iload 6, 2) := by decide +kernel
theorem kRW_divide_d236 : decode prog_14_method_20_code 236 = .ok (.iconst 1, 1) := by decide +kernel
theorem kRW_divide_d237 : decode prog_14_method_20_code 237 = .ok (.iadd, 1) := by decide +kernel
theorem kRW_divide_d238 : decode prog_14_method_20_code 238 = .ok (.aload_n 0, 1) := by decide +kernel
theorem kRW_divide_d239 : decode prog_14_method_20_code 239 = .ok (.getfield 7, 3) := by decide +kernel
theorem kRW_divide_d242 : decode prog_14_method_20_code 242 = .ok (.iload_n 1, 1) := by decide +kernel
theorem kRW_divide_d243 : decode prog_14_method_20_code 243 = .ok (.iload 11, 2) := by decide +kernel
theorem kRW_divide_d245 : decode prog_14_method_20_code 245 = .ok (.iadd, 1) := by decide +kernel
theorem kRW_divide_d246 : decode prog_14_method_20_code 246 = .ok (.iaload, 1) := by decide +kernel
theorem kRW_divide_d247 : decode prog_14_method_20_code 247 = .ok (.iastore, 1) := by decide +kernel
theorem kRW_divide_d248 : decode prog_14_method_20_code 248 = .ok (.aload_n 0, 1) := by decide +kernel
theorem kRW_divide_d249 : decode prog_14_method_20_code 249 = .ok (.iload 6, 2) := by decide +kernel
theorem kRW_divide_d251 : decode prog_14_method_20_code 251 = .ok (.iconst 1, 1) := by decide +kernel
theorem kRW_divide_d252 : decode prog_14_method_20_code 252 = .ok (.iadd, 1) := by decide +kernel
theorem kRW_divide_d253 : decode prog_14_method_20_code 253 = .ok (.iload 5, 2) := by decide +kernel
theorem kRW_divide_d255 : decode prog_14_method_20_code 255 = .ok (.iconst 1, 1) := by decide +kernel
theorem kRW_divide_d256 : decode prog_14_method_20_code 256 = .ok (.iadd, 1) := by decide +kernel
theorem kRW_divide_d257 : decode prog_14_method_20_code 257 = .ok (.iload 5, 2) := by decide +kernel
theorem kRW_divide_d259 : decode prog_14_method_20_code 259 = .ok (.invokevirtual 69, 3) := by decide +kernel
theorem kRW_divide_d262 : decode prog_14_method_20_code 262 = .ok (.lstore 12, 2) := by decide +kernel
theorem kRW_divide_d264 : decode prog_14_method_20_code 264 = .ok (.lload 12, 2) := by decide +kernel
theorem kRW_divide_d266 : decode prog_14_method_20_code 266 = .ok (.lload 9, 2) := by decide +kernel
theorem kRW_divide_d268 : decode prog_14_method_20_code 268 = .ok (.ldiv, 1) := by decide +kernel
theorem kRW_divide_d269 : decode prog_14_method_20_code 269 = .ok (.ldc2_w 73, 3) := by decide +kernel
theorem kRW_divide_d272 : decode prog_14_method_20_code 272 = .ok (.invokestatic 75, 3) := by decide +kernel
theorem kRW_divide_d275 : decode prog_14_method_20_code 275 = .ok (.l2i, 1) := by decide +kernel
theorem kRW_divide_d276 : decode prog_14_method_20_code 276 = .ok (.istore 14, 2) := by decide +kernel
theorem kRW_divide_d278 : decode prog_14_method_20_code 278 = .ok (.aload_n 0, 1) := by decide +kernel
theorem kRW_divide_d279 : decode prog_14_method_20_code 279 = .ok (.iload 6, 2) := by decide +kernel
theorem kRW_divide_d281 : decode prog_14_method_20_code 281 = .ok (.iconst 1, 1) := by decide +kernel
theorem kRW_divide_d282 : decode prog_14_method_20_code 282 = .ok (.iadd, 1) := by decide +kernel
theorem kRW_divide_d283 : decode prog_14_method_20_code 283 = .ok (.iload_n 2, 1) := by decide +kernel
theorem kRW_divide_d284 : decode prog_14_method_20_code 284 = .ok (.iload 5, 2) := by decide +kernel
theorem kRW_divide_d286 : decode prog_14_method_20_code 286 = .ok (.iload 14, 2) := by decide +kernel
theorem kRW_divide_d288 : decode prog_14_method_20_code 288 = .ok (.invokevirtual 79, 3) := by decide +kernel
theorem kRW_divide_d291 : decode prog_14_method_20_code 291 = .ok (.ifCond .ne 9, 3) := by decide +kernel
theorem kRW_divide_d294 : decode prog_14_method_20_code 294 = .ok (.iinc 14 (-1), 3) := by decide +kernel
theorem kRW_divide_d297 : decode prog_14_method_20_code 297 = .ok (.goto (-19), 3) := by decide +kernel
theorem kRW_divide_d300 : decode prog_14_method_20_code 300 = .ok (.aload_n 0, 1) := by decide +kernel
theorem kRW_divide_d301 : decode prog_14_method_20_code 301 = .ok (.getfield 7, 3) := by decide +kernel
theorem kRW_divide_d304 : decode prog_14_method_20_code 304 = .ok (.iload 7, 2) := by decide +kernel
theorem kRW_divide_d306 : decode prog_14_method_20_code 306 = .ok (.iload 11, 2) := by decide +kernel
theorem kRW_divide_d308 : decode prog_14_method_20_code 308 = .ok (.iadd, 1) := by decide +kernel
theorem kRW_divide_d309 : decode prog_14_method_20_code 309 = .ok (.iload 14, 2) := by decide +kernel
theorem kRW_divide_d311 : decode prog_14_method_20_code 311 = .ok (.iastore, 1) := by decide +kernel
theorem kRW_divide_d312 : decode prog_14_method_20_code 312 = .ok (.iinc 11 (-1), 3) := by decide +kernel
theorem kRW_divide_d315 : decode prog_14_method_20_code 315 = .ok (.goto (-130), 3) := by decide +kernel
theorem kRW_divide_d318 : decode prog_14_method_20_code 318 = .ok (.iload 6, 2) := by decide +kernel
theorem kRW_divide_d320 : decode prog_14_method_20_code 320 = .ok (.iconst 1, 1) := by decide +kernel
theorem kRW_divide_d321 : decode prog_14_method_20_code 321 = .ok (.iadd, 1) := by decide +kernel
theorem kRW_divide_d322 : decode prog_14_method_20_code 322 = .ok (.istore 11, 2) := by decide +kernel
theorem kRW_divide_d324 : decode prog_14_method_20_code 324 = .ok (.iload 5, 2) := by decide +kernel
theorem kRW_divide_d326 : decode prog_14_method_20_code 326 = .ok (.istore 12, 2) := by decide +kernel
theorem kRW_divide_d328 : decode prog_14_method_20_code 328 = .ok (.iload 12, 2) := by decide +kernel
theorem kRW_divide_d330 : decode prog_14_method_20_code 330 = .ok (.ifCond .le 24, 3) := by decide +kernel
theorem kRW_divide_d333 : decode prog_14_method_20_code 333 = .ok (.aload_n 0, 1) := by decide +kernel
theorem kRW_divide_d334 : decode prog_14_method_20_code 334 = .ok (.getfield 7, 3) := by decide +kernel
theorem kRW_divide_d337 : decode prog_14_method_20_code 337 = .ok (.iload 11, 2) := by decide +kernel
theorem kRW_divide_d339 : decode prog_14_method_20_code 339 = .ok (.iload 12, 2) := by decide +kernel
theorem kRW_divide_d341 : decode prog_14_method_20_code 341 = .ok (.iadd, 1) := by decide +kernel
theorem kRW_divide_d342 : decode prog_14_method_20_code 342 = .ok (.iconst 1, 1) := by decide +kernel
theorem kRW_divide_d343 : decode prog_14_method_20_code 343 = .ok (.isub, 1) := by decide +kernel
theorem kRW_divide_d344 : decode prog_14_method_20_code 344 = .ok (.iaload, 1) := by decide +kernel
theorem kRW_divide_d345 : decode prog_14_method_20_code 345 = .ok (.ifCond .ne 9, 3) := by decide +kernel
theorem kRW_divide_d348 : decode prog_14_method_20_code 348 = .ok (.iinc 12 (-1), 3) := by decide +kernel
theorem kRW_divide_d351 : decode prog_14_method_20_code 351 = .ok (.goto (-23), 3) := by decide +kernel
theorem kRW_divide_d354 : decode prog_14_method_20_code 354 = .ok (.iload 12, 2) := by decide +kernel
theorem kRW_divide_d356 : decode prog_14_method_20_code 356 = .ok (.ifCond .le 7, 3) := by decide +kernel
theorem kRW_divide_d359 : decode prog_14_method_20_code 359 = .ok (.iconst 1, 1) := by decide +kernel
theorem kRW_divide_d360 : decode prog_14_method_20_code 360 = .ok (.goto 4, 3) := by decide +kernel
theorem kRW_divide_d363 : decode prog_14_method_20_code 363 = .ok (.iconst 0, 1) := by decide +kernel
theorem kRW_divide_d364 : decode prog_14_method_20_code 364 = .ok (.istore 13, 2) := by decide +kernel
theorem kRW_divide_d366 : decode prog_14_method_20_code 366 = .ok (.iload 7, 2) := by decide +kernel
theorem kRW_divide_d368 : decode prog_14_method_20_code 368 = .ok (.iload 4, 2) := by decide +kernel
theorem kRW_divide_d370 : decode prog_14_method_20_code 370 = .ok (.iadd, 1) := by decide +kernel
theorem kRW_divide_d371 : decode prog_14_method_20_code 371 = .ok (.iconst 1, 1) := by decide +kernel
theorem kRW_divide_d372 : decode prog_14_method_20_code 372 = .ok (.iadd, 1) := by decide +kernel
theorem kRW_divide_d373 : decode prog_14_method_20_code 373 = .ok (.istore 14, 2) := by decide +kernel
theorem kRW_divide_d375 : decode prog_14_method_20_code 375 = .ok (.aload_n 0, 1) := by decide +kernel
theorem kRW_divide_d376 : decode prog_14_method_20_code 376 = .ok (.iload 14, 2) := by decide +kernel
theorem kRW_divide_d378 : decode prog_14_method_20_code 378 = .ok (.aload_n 0, 1) := by decide +kernel
theorem kRW_divide_d379 : decode prog_14_method_20_code 379 = .ok (.getfield 13, 3) := by decide +kernel
theorem kRW_divide_d382 : decode prog_14_method_20_code 382 = .ok (.isub, 1) := by decide +kernel
theorem kRW_divide_d383 : decode prog_14_method_20_code 383 = .ok (.iload 4, 2) := by decide +kernel
theorem kRW_divide_d385 : decode prog_14_method_20_code 385 = .ok (.iadd, 1) := by decide +kernel
theorem kRW_divide_d386 : decode prog_14_method_20_code 386 = .ok (.iload 5, 2) := by decide +kernel
theorem kRW_divide_d388 : decode prog_14_method_20_code 388 = .ok (.iadd, 1) := by decide +kernel
theorem kRW_divide_d389 : decode prog_14_method_20_code 389 = .ok (.bipush 8, 2) := by decide +kernel
theorem kRW_divide_d391 : decode prog_14_method_20_code 391 = .ok (.iadd, 1) := by decide +kernel
theorem kRW_divide_d392 : decode prog_14_method_20_code 392 = .ok (.invokevirtual 27, 3) := by decide +kernel
theorem kRW_divide_d395 : decode prog_14_method_20_code 395 = .ok (.iconst 0, 1) := by decide +kernel
theorem kRW_divide_d396 : decode prog_14_method_20_code 396 = .ok (.istore 15, 2) := by decide +kernel
theorem kRW_divide_d398 : decode prog_14_method_20_code 398 = .ok (.iload 15, 2) := by decide +kernel
theorem kRW_divide_d400 : decode prog_14_method_20_code 400 = .ok (.iload 4, 2) := by decide +kernel
theorem kRW_divide_d402 : decode prog_14_method_20_code 402 = .ok (.if_icmp .ge 33, 3) := by decide +kernel
theorem kRW_divide_d405 : decode prog_14_method_20_code 405 = .ok (.aload_n 0, 1) := by decide +kernel
theorem kRW_divide_d406 : decode prog_14_method_20_code 406 = .ok (.getfield 7, 3) := by decide +kernel
theorem kRW_divide_d409 : decode prog_14_method_20_code 409 = .ok (.iload 14, 2) := by decide +kernel
theorem kRW_divide_d411 : decode prog_14_method_20_code 411 = .ok (.iconst 1, 1) := by decide +kernel
theorem kRW_divide_d412 : decode prog_14_method_20_code 412 = .ok (.iadd, 1) := by decide +kernel
theorem kRW_divide_d413 : decode prog_14_method_20_code 413 = .ok (.iload 15, 2) := by decide +kernel
theorem kRW_divide_d415 : decode prog_14_method_20_code 415 = .ok (.iadd, 1) := by decide +kernel
theorem kRW_divide_d416 : decode prog_14_method_20_code 416 = .ok (.aload_n 0, 1) := by decide +kernel
theorem kRW_divide_d417 : decode prog_14_method_20_code 417 = .ok (.getfield 7, 3) := by decide +kernel
theorem kRW_divide_d420 : decode prog_14_method_20_code 420 = .ok (.iload 7, 2) := by decide +kernel
theorem kRW_divide_d422 : decode prog_14_method_20_code 422 = .ok (.iconst 1, 1) := by decide +kernel
theorem kRW_divide_d423 : decode prog_14_method_20_code 423 = .ok (.iadd, 1) := by decide +kernel
theorem kRW_divide_d424 : decode prog_14_method_20_code 424 = .ok (.iload 15, 2) := by decide +kernel
theorem kRW_divide_d426 : decode prog_14_method_20_code 426 = .ok (.iadd, 1) := by decide +kernel
theorem kRW_divide_d427 : decode prog_14_method_20_code 427 = .ok (.iaload, 1) := by decide +kernel
theorem kRW_divide_d428 : decode prog_14_method_20_code 428 = .ok (.iastore, 1) := by decide +kernel
theorem kRW_divide_d429 : decode prog_14_method_20_code 429 = .ok (.iinc 15 1, 3) := by decide +kernel
theorem kRW_divide_d432 : decode prog_14_method_20_code 432 = .ok (.goto (-34), 3) := by decide +kernel
theorem kRW_divide_d435 : decode prog_14_method_20_code 435 = .ok (.aload_n 0, 1) := by decide +kernel
theorem kRW_divide_d436 : decode prog_14_method_20_code 436 = .ok (.getfield 13, 3) := by decide +kernel
theorem kRW_divide_d439 : decode prog_14_method_20_code 439 = .ok (.istore 15, 2) := by decide +kernel
theorem kRW_divide_d441 : decode prog_14_method_20_code 441 = .ok (.aload_n 0, 1) := by decide +kernel
theorem kRW_divide_d442 : decode prog_14_method_20_code 442 = .ok (.iload 14, 2) := by decide +kernel
theorem kRW_divide_d444 : decode prog_14_method_20_code 444 = .ok (.putfield 13, 3) := by decide +kernel
theorem kRW_divide_d447 : decode prog_14_method_20_code 447 = .ok (.aload_n 0, 1) := by decide +kernel
theorem kRW_divide_d448 : decode prog_14_method_20_code 448 = .ok (.iload 4, 2) := by decide +kernel
theorem kRW_divide_d450 : decode prog_14_method_20_code 450 = .ok (.iload_n 3, 1) := by decide +kernel
theorem kRW_divide_d451 : decode prog_14_method_20_code 451 = .ok (.invokevirtual 33, 3) := by decide +kernel
theorem kRW_divide_d454 : decode prog_14_method_20_code 454 = .ok (.istore 16, 2) := by decide +kernel
theorem kRW_divide_d456 : decode prog_14_method_20_code 456 = .ok (.aload_n 0, 1) := by decide +kernel
theorem kRW_divide_d457 : decode prog_14_method_20_code 457 = .ok (.iload 12, 2) := by decide +kernel
theorem kRW_divide_d459 : decode prog_14_method_20_code 459 = .ok (.iconst 2, 1) := by decide +kernel
theorem kRW_divide_d460 : decode prog_14_method_20_code 460 = .ok (.iadd, 1) := by decide +kernel
theorem kRW_divide_d461 : decode prog_14_method_20_code 461 = .ok (.invokevirtual 27, 3) := by decide +kernel
theorem kRW_divide_d464 : decode prog_14_method_20_code 464 = .ok (.iconst 0, 1) := by decide +kernel
theorem kRW_divide_d465 : decode prog_14_method_20_code 465 = .ok (.istore 17, 2) := by decide +kernel
theorem kRW_divide_d467 : decode prog_14_method_20_code 467 = .ok (.iload 17, 2) := by decide +kernel
theorem kRW_divide_d469 : decode prog_14_method_20_code 469 = .ok (.iload 12, 2) := by decide +kernel
theorem kRW_divide_d471 : decode prog_14_method_20_code 471 = .ok (.if_icmp .ge 33, 3) := by decide +kernel
theorem kRW_divide_d474 : decode prog_14_method_20_code 474 = .ok (.aload_n 0, 1) := by decide +kernel
theorem kRW_divide_d475 : decode prog_14_method_20_code 475 = .ok (.getfield 7, 3) := by decide +kernel
theorem kRW_divide_d478 : decode prog_14_method_20_code 478 = .ok (.aload_n 0, 1) := by decide +kernel
theorem kRW_divide_d479 : decode prog_14_method_20_code 479 = .ok (.getfield 13, 3) := by decide +kernel
theorem kRW_divide_d482 : decode prog_14_method_20_code 482 = .ok (.iconst 1, 1) := by decide +kernel
theorem kRW_divide_d483 : decode prog_14_method_20_code 483 = .ok (.iadd, 1) := by decide +kernel
theorem kRW_divide_d484 : decode prog_14_method_20_code 484 = .ok (.iload 17, 2) := by decide +kernel
theorem kRW_divide_d486 : decode prog_14_method_20_code 486 = .ok (.iadd, 1) := by decide +kernel
theorem kRW_divide_d487 : decode prog_14_method_20_code 487 = .ok (.aload_n 0, 1) := by decide +kernel
theorem kRW_divide_d488 : decode prog_14_method_20_code 488 = .ok (.getfield 7, 3) := by decide +kernel
theorem kRW_divide_d491 : decode prog_14_method_20_code 491 = .ok (.iload 11, 2) := by decide +kernel
theorem kRW_divide_d493 : decode prog_14_method_20_code 493 = .ok (.iload 17, 2) := by decide +kernel
theorem kRW_divide_d495 : decode prog_14_method_20_code 495 = .ok (.iadd, 1) := by decide +kernel
theorem kRW_divide_d496 : decode prog_14_method_20_code 496 = .ok (.iaload, 1) := by decide +kernel
theorem kRW_divide_d497 : decode prog_14_method_20_code 497 = .ok (.iastore, 1) := by decide +kernel
theorem kRW_divide_d498 : decode prog_14_method_20_code 498 = .ok (.iinc 17 1, 3) := by decide +kernel
theorem kRW_divide_d501 : decode prog_14_method_20_code 501 = .ok (.goto (-34), 3) := by decide +kernel
theorem kRW_divide_d504 : decode prog_14_method_20_code 504 = .ok (.aload_n 0, 1) := by decide +kernel
theorem kRW_divide_d505 : decode prog_14_method_20_code 505 = .ok (.iload 12, 2) := by decide +kernel
theorem kRW_divide_d507 : decode prog_14_method_20_code 507 = .ok (.iconst 0, 1) := by decide +kernel
theorem kRW_divide_d508 : decode prog_14_method_20_code 508 = .ok (.invokevirtual 33, 3) := by decide +kernel
theorem kRW_divide_d511 : decode prog_14_method_20_code 511 = .ok (.istore 17, 2) := by decide +kernel
theorem kRW_divide_d513 : decode prog_14_method_20_code 513 = .ok (.iload_n 3, 1) := by decide +kernel
theorem kRW_divide_d514 : decode prog_14_method_20_code 514 = .ok (.ifCond .eq 30, 3) := by decide +kernel
theorem kRW_divide_d517 : decode prog_14_method_20_code 517 = .ok (.iload 13, 2) := by decide +kernel
theorem kRW_divide_d519 : decode prog_14_method_20_code 519 = .ok (.ifCond .eq 25, 3) := by decide +kernel
theorem kRW_divide_d522 : decode prog_14_method_20_code 522 = .ok (.aload_n 0, 1) := by decide +kernel
theorem kRW_divide_d523 : decode prog_14_method_20_code 523 = .ok (.iload 16, 2) := by decide +kernel
theorem kRW_divide_d525 : decode prog_14_method_20_code 525 = .ok (.aload_n 0, 1) := by decide +kernel
theorem kRW_divide_d526 : decode prog_14_method_20_code 526 = .ok (.lconst 1, 1) := by decide +kernel
theorem kRW_divide_d527 : decode prog_14_method_20_code 527 = .ok (.invokevirtual 83, 3) := by decide +kernel
theorem kRW_divide_d530 : decode prog_14_method_20_code 530 = .ok (.invokevirtual 87, 3) := by decide +kernel
theorem kRW_divide_d533 : decode prog_14_method_20_code 533 = .ok (.istore 16, 2) := by decide +kernel
theorem kRW_divide_d535 : decode prog_14_method_20_code 535 = .ok (.aload_n 0, 1) := by decide +kernel
theorem kRW_divide_d536 : decode prog_14_method_20_code 536 = .ok (.iload_n 2, 1) := by decide +kernel
theorem kRW_divide_d537 : decode prog_14_method_20_code 537 = .ok (.iload 17, 2) := by decide +kernel
theorem kRW_divide_d539 : decode prog_14_method_20_code 539 = .ok (.invokevirtual 87, 3) := by decide +kernel
theorem kRW_divide_d542 : decode prog_14_method_20_code 542 = .ok (.istore 17, 2) := by decide +kernel
theorem kRW_divide_d544 : decode prog_14_method_20_code 544 = .ok (.aload_n 0, 1) := by decide +kernel
theorem kRW_divide_d545 : decode prog_14_method_20_code 545 = .ok (.iload 16, 2) := by decide +kernel
theorem kRW_divide_d547 : decode prog_14_method_20_code 547 = .ok (.invokevirtual 23, 3) := by decide +kernel
theorem kRW_divide_d550 : decode prog_14_method_20_code 550 = .ok (.istore 18, 2) := by decide +kernel
theorem kRW_divide_d552 : decode prog_14_method_20_code 552 = .ok (.aload_n 0, 1) := by decide +kernel
theorem kRW_divide_d553 : decode prog_14_method_20_code 553 = .ok (.iload 17, 2) := by decide +kernel
theorem kRW_divide_d555 : decode prog_14_method_20_code 555 = .ok (.invokevirtual 23, 3) := by decide +kernel
theorem kRW_divide_d558 : decode prog_14_method_20_code 558 = .ok (.istore 19, 2) := by decide +kernel
theorem kRW_divide_d560 : decode prog_14_method_20_code 560 = .ok (.aload_n 0, 1) := by decide +kernel
theorem kRW_divide_d561 : decode prog_14_method_20_code 561 = .ok (.iload 16, 2) := by decide +kernel
theorem kRW_divide_d563 : decode prog_14_method_20_code 563 = .ok (.invokevirtual 43, 3) := by decide +kernel
theorem kRW_divide_d566 : decode prog_14_method_20_code 566 = .ok (.istore 20, 2) := by decide +kernel
theorem kRW_divide_d568 : decode prog_14_method_20_code 568 = .ok (.iload 15, 2) := by decide +kernel
theorem kRW_divide_d570 : decode prog_14_method_20_code 570 = .ok (.istore 21, 2) := by decide +kernel
theorem kRW_divide_d572 : decode prog_14_method_20_code 572 = .ok (.iconst 1, 1) := by decide +kernel
theorem kRW_divide_d573 : decode prog_14_method_20_code 573 = .ok (.istore 22, 2) := by decide +kernel
theorem kRW_divide_d575 : decode prog_14_method_20_code 575 = .ok (.iload 22, 2) := by decide +kernel
theorem kRW_divide_d577 : decode prog_14_method_20_code 577 = .ok (.iload 18, 2) := by decide +kernel
theorem kRW_divide_d579 : decode prog_14_method_20_code 579 = .ok (.if_icmp .gt 29, 3) := by decide +kernel
theorem kRW_divide_d582 : decode prog_14_method_20_code 582 = .ok (.aload_n 0, 1) := by decide +kernel
theorem kRW_divide_d583 : decode prog_14_method_20_code 583 = .ok (.getfield 7, 3) := by decide +kernel
theorem kRW_divide_d586 : decode prog_14_method_20_code 586 = .ok (.iload 21, 2) := by decide +kernel
theorem kRW_divide_d588 : decode prog_14_method_20_code 588 = .ok (.iload 22, 2) := by decide +kernel
theorem kRW_divide_d590 : decode prog_14_method_20_code 590 = .ok (.iadd, 1) := by decide +kernel
theorem kRW_divide_d591 : decode prog_14_method_20_code 591 = .ok (.aload_n 0, 1) := by decide +kernel
theorem kRW_divide_d592 : decode prog_14_method_20_code 592 = .ok (.getfield 7, 3) := by decide +kernel
theorem kRW_divide_d595 : decode prog_14_method_20_code 595 = .ok (.iload 16, 2) := by decide +kernel
theorem kRW_divide_d597 : decode prog_14_method_20_code 597 = .ok (.iload 22, 2) := by decide +kernel
theorem kRW_divide_d599 : decode prog_14_method_20_code 599 = .ok (.iadd, 1) := by decide +kernel
theorem kRW_divide_d600 : decode prog_14_method_20_code 600 = .ok (.iaload, 1) := by decide +kernel
theorem kRW_divide_d601 : decode prog_14_method_20_code 601 = .ok (.iastore, 1) := by decide +kernel
theorem kRW_divide_d602 : decode prog_14_method_20_code 602 = .ok (.iinc 22 1, 3) := by decide +kernel
theorem kRW_divide_d605 : decode prog_14_method_20_code 605 = .ok (.goto (-30), 3) := by decide +kernel
theorem kRW_divide_d608 : decode prog_14_method_20_code 608 = .ok (.iload 18, 2) := by decide +kernel
theorem kRW_divide_d610 : decode prog_14_method_20_code 610 = .ok (.ifCond .le 15, 3) := by decide +kernel
theorem kRW_divide_d613 : decode prog_14_method_20_code 613 = .ok (.aload_n 0, 1) := by decide +kernel
theorem kRW_divide_d614 : decode prog_14_method_20_code 614 = .ok (.getfield 7, 3) := by decide +kernel
theorem kRW_divide_d617 : decode prog_14_method_20_code 617 = .ok (.iload 21, 2) := by decide +kernel
theorem kRW_divide_d619 : decode prog_14_method_20_code 619 = .ok (.iload 20, 2) := by decide +kernel
theorem kRW_divide_d621 : decode prog_14_method_20_code 621 = .ok (.iload 18, 2) := by decide +kernel
theorem kRW_divide_d623 : decode prog_14_method_20_code 623 = .ok (.imul, 1) := by decide +kernel
theorem kRW_divide_d624 : decode prog_14_method_20_code 624 = .ok (.iastore, 1) := by decide +kernel
theorem kRW_divide_d625 : decode prog_14_method_20_code 625 = .ok (.iload 18, 2) := by decide +kernel
theorem kRW_divide_d627 : decode prog_14_method_20_code 627 = .ok (.ifCond .le 13, 3) := by decide +kernel
theorem kRW_divide_d630 : decode prog_14_method_20_code 630 = .ok (.iload 21, 2) := by decide +kernel
theorem kRW_divide_d632 : decode prog_14_method_20_code 632 = .ok (.iload 18, 2) := by decide +kernel
theorem kRW_divide_d634 : decode prog_14_method_20_code 634 = .ok (.iadd, 1) := by decide +kernel
theorem kRW_divide_d635 : decode prog_14_method_20_code 635 = .ok (.iconst 1, 1) := by decide +kernel
theorem kRW_divide_d636 : decode prog_14_method_20_code 636 = .ok (.iadd, 1) := by decide +kernel
theorem kRW_divide_d637 : decode prog_14_method_20_code 637 = .ok (.goto 5, 3) := by decide +kernel
theorem kRW_divide_d640 : decode prog_14_method_20_code 640 = .ok (.iload 21, 2) := by decide +kernel
theorem kRW_divide_d642 : decode prog_14_method_20_code 642 = .ok (.istore 22, 2) := by decide +kernel
theorem kRW_divide_d644 : decode prog_14_method_20_code 644 = .ok (.iconst 1, 1) := by decide +kernel
theorem kRW_divide_d645 : decode prog_14_method_20_code 645 = .ok (.istore 23, 2) := by decide +kernel
theorem kRW_divide_d647 : decode prog_14_method_20_code 647 = .ok (.iload 23, 2) := by decide +kernel
theorem kRW_divide_d649 : decode prog_14_method_20_code 649 = .ok (.iload 19, 2) := by decide +kernel
theorem kRW_divide_d651 : decode prog_14_method_20_code 651 = .ok (.if_icmp .gt 29, 3) := by decide +kernel
theorem kRW_divide_d654 : decode prog_14_method_20_code 654 = .ok (.aload_n 0, 1) := by decide +kernel
theorem kRW_divide_d655 : decode prog_14_method_20_code 655 = .ok (.getfield 7, 3) := by decide +kernel
theorem kRW_divide_d658 : decode prog_14_method_20_code 658 = .ok (.iload 22, 2) := by decide +kernel
theorem kRW_divide_d660 : decode prog_14_method_20_code 660 = .ok (.iload 23, 2) := by decide +kernel
theorem kRW_divide_d662 : decode prog_14_method_20_code 662 = .ok (.iadd, 1) := by decide +kernel
theorem kRW_divide_d663 : decode prog_14_method_20_code 663 = .ok (.aload_n 0, 1) := by decide +kernel
theorem kRW_divide_d664 : decode prog_14_method_20_code 664 = .ok (.getfield 7, 3) := by decide +kernel
theorem kRW_divide_d667 : decode prog_14_method_20_code 667 = .ok (.iload 17, 2) := by decide +kernel
theorem kRW_divide_d669 : decode prog_14_method_20_code 669 = .ok (.iload 23, 2) := by decide +kernel
theorem kRW_divide_d671 : decode prog_14_method_20_code 671 = .ok (.iadd, 1) := by decide +kernel
theorem kRW_divide_d672 : decode prog_14_method_20_code 672 = .ok (.iaload, 1) := by decide +kernel
theorem kRW_divide_d673 : decode prog_14_method_20_code 673 = .ok (.iastore, 1) := by decide +kernel
theorem kRW_divide_d674 : decode prog_14_method_20_code 674 = .ok (.iinc 23 1, 3) := by decide +kernel
theorem kRW_divide_d677 : decode prog_14_method_20_code 677 = .ok (.goto (-30), 3) := by decide +kernel
theorem kRW_divide_d680 : decode prog_14_method_20_code 680 = .ok (.iload 19, 2) := by decide +kernel
theorem kRW_divide_d682 : decode prog_14_method_20_code 682 = .ok (.ifCond .le 12, 3) := by decide +kernel
theorem kRW_divide_d685 : decode prog_14_method_20_code 685 = .ok (.aload_n 0, 1) := by decide +kernel
theorem kRW_divide_d686 : decode prog_14_method_20_code 686 = .ok (.getfield 7, 3) := by decide +kernel
theorem kRW_divide_d689 : decode prog_14_method_20_code 689 = .ok (.iload 22, 2) := by decide +kernel
theorem kRW_divide_d691 : decode prog_14_method_20_code 691 = .ok (.iload 19, 2) := by decide +kernel
theorem kRW_divide_d693 : decode prog_14_method_20_code 693 = .ok (.iastore, 1) := by decide +kernel
theorem kRW_divide_d694 : decode prog_14_method_20_code 694 = .ok (.aload_n 0, 1) := by decide +kernel
theorem kRW_divide_d695 : decode prog_14_method_20_code 695 = .ok (.iload 19, 2) := by decide +kernel
theorem kRW_divide_d697 : decode prog_14_method_20_code 697 = .ok (.ifCond .le 13, 3) := by decide +kernel
theorem kRW_divide_d700 : decode prog_14_method_20_code 700 = .ok (.iload 22, 2) := by decide +kernel
theorem kRW_divide_d702 : decode prog_14_method_20_code 702 = .ok (.iload 19, 2) := by decide +kernel
theorem kRW_divide_d704 : decode prog_14_method_20_code 704 = .ok (.iadd, 1) := by decide +kernel
theorem kRW_divide_d705 : decode prog_14_method_20_code 705 = .ok (.iconst 1, 1) := by decide +kernel
theorem kRW_divide_d706 : decode prog_14_method_20_code 706 = .ok (.iadd, 1) := by decide +kernel
theorem kRW_divide_d707 : decode prog_14_method_20_code 707 = .ok (.goto 5, 3) := by decide +kernel
theorem kRW_divide_d710 : decode prog_14_method_20_code 710 = .ok (.iload 22, 2) := by decide +kernel
theorem kRW_divide_d712 : decode prog_14_method_20_code 712 = .ok (.putfield 13, 3) := by decide +kernel
theorem kRW_divide_d715 : decode prog_14_method_20_code 715 = .ok (.aload_n 0, 1) := by decide +kernel
theorem kRW_divide_d716 : decode prog_14_method_20_code 716 = .ok (.iload 19, 2) := by decide +kernel
theorem kRW_divide_d718 : decode prog_14_method_20_code 718 = .ok (.ifCond .le 8, 3) := by decide +kernel
theorem kRW_divide_d721 : decode prog_14_method_20_code 721 = .ok (.iload 22, 2) := by decide +kernel
theorem kRW_divide_d723 : decode prog_14_method_20_code 723 = .ok (.goto 4, 3) := by decide +kernel
theorem kRW_divide_d726 : decode prog_14_method_20_code 726 = .ok (.iconst 0, 1) := by decide +kernel
theorem kRW_divide_d727 : decode prog_14_method_20_code 727 = .ok (.putfield 90, 3) := by decide +kernel
theorem kRW_divide_d730 : decode prog_14_method_20_code 730 = .ok (.iload 18, 2) := by decide +kernel
theorem kRW_divide_d732 : decode prog_14_method_20_code 732 = .ok (.ifCond .le 8, 3) := by decide +kernel
theorem kRW_divide_d735 : decode prog_14_method_20_code 735 = .ok (.iload 21, 2) := by decide +kernel
theorem kRW_divide_d737 : decode prog_14_method_20_code 737 = .ok (.goto 4, 3) := by decide +kernel
theorem kRW_divide_d740 : decode prog_14_method_20_code 740 = .ok (.iconst 0, 1) := by decide +kernel
theorem kRW_divide_d741 : decode prog_14_method_20_code 741 = .ok (.ireturn, 1) := by decide +kernel
theorem kRW_leading_d0 : decode prog_14_method_21_code 0 = .ok (.iload_n 2, 1) := by decide +kernel
theorem kRW_leading_d1 : decode prog_14_method_21_code 1 = .ok (.iload_n 3, 1) := by decide +kernel
theorem kRW_leading_d2 : decode prog_14_method_21_code 2 = .ok (.if_icmp .le 15, 3) := by decide +kernel
theorem kRW_leading_d5 : decode prog_14_method_21_code 5 = .ok (.aload_n 0, 1) := by decide +kernel
theorem kRW_leading_d6 : decode prog_14_method_21_code 6 = .ok (.getfield 7, 3) := by decide +kernel
theorem kRW_leading_d9 : decode prog_14_method_21_code 9 = .ok (.iload_n 1, 1) := by decide +kernel
theorem kRW_leading_d10 : decode prog_14_method_21_code 10 = .ok (.iload_n 3, 1) := by decide +kernel
theorem kRW_leading_d11 : decode prog_14_method_21_code 11 = .ok (.iadd, 1) := by decide +kernel
theorem kRW_leading_d12 : decode prog_14_method_21_code 12 = .ok (.iaload, 1) := by decide +kernel
theorem kRW_leading_d13 : decode prog_14_method_21_code 13 = .ok (.i2l, 1) := by decide +kernel
theorem kRW_leading_d14 : decode prog_14_method_21_code 14 = .ok (.goto 4, 3) := by decide +kernel
theorem kRW_leading_d17 : decode prog_14_method_21_code 17 = .ok (.lconst 0, 1) := by decide +kernel
theorem kRW_leading_d18 : decode prog_14_method_21_code 18 = .ok (.lstore 4, 2) := by decide +kernel
theorem kRW_leading_d20 : decode prog_14_method_21_code 20 = .ok (.iload_n 3, 1) := by decide +kernel
theorem kRW_leading_d21 : decode prog_14_method_21_code 21 = .ok (.iconst 1, 1) := by decide +kernel
theorem kRW_leading_d22 : decode prog_14_method_21_code 22 = .ok (.isub, 1) := by decide +kernel
theorem kRW_leading_d23 : decode prog_14_method_21_code 23 = .ok (.istore 6, 2) := by decide +kernel
theorem kRW_leading_d25 : decode prog_14_method_21_code 25 = .ok (.iload 6, 2) := by decide +kernel
theorem kRW_leading_d27 : decode prog_14_method_21_code 27 = .ok (.iload_n 3, 1) := by decide +kernel
theorem kRW_leading_d28 : decode prog_14_method_21_code 28 = .ok (.iconst 3, 1) := by decide +kernel
theorem kRW_leading_d29 : decode prog_14_method_21_code 29 = .ok (.isub, 1) := by decide +kernel
theorem kRW_leading_d30 : decode prog_14_method_21_code 30 = .ok (.if_icmp .lt 37, 3) := by decide +kernel
theorem kRW_leading_d33 : decode prog_14_method_21_code 33 = .ok (.lload 4, 2) := by decide +kernel
theorem kRW_leading_d35 : decode prog_14_method_21_code 35 = .ok (.ldc2_w 31, 3) := by decide +kernel
theorem kRW_leading_d38 : decode prog_14_method_21_code 38 = .ok (.lmul, 1) := by decide +kernel
theorem kRW_leading_d39 : decode prog_14_method_21_code 39 = .ok (.iload 6, 2) := by decide +kernel
theorem kRW_leading_d41 : decode prog_14_method_21_code 41 = .ok (.ifCond .lt 16, 3) := by decide +kernel
theorem kRW_leading_d44 : decode prog_14_method_21_code 44 = .ok (.aload_n 0, 1) := by decide +kernel
theorem kRW_leading_d45 : decode prog_14_method_21_code 45 = .ok (.getfield 7, 3) := by decide +kernel
theorem kRW_leading_d48 : decode prog_14_method_21_code 48 = .ok (.iload_n 1, 1) := by decide +kernel
theorem kRW_leading_d49 : decode prog_14_method_21_code 49 = .ok (.iload 6, 2) := by decide +kernel
theorem kRW_leading_d51 : decode prog_14_method_21_code 51 = .ok (.iadd, 1) := by decide +kernel
theorem kRW_leading_d52 : decode prog_14_method_21_code 52 = .ok (.iaload, 1) := by decide +kernel
theorem kRW_leading_d53 : decode prog_14_method_21_code 53 = .ok (.i2l, 1) := by decide +kernel
theorem kRW_leading_d54 : decode prog_14_method_21_code 54 = .ok (.goto 4, 3) := by decide +kernel
theorem kRW_leading_d57 : decode prog_14_method_21_code 57 = .ok (.lconst 0, 1) := by decide +kernel
theorem kRW_leading_d58 : decode prog_14_method_21_code 58 = .ok (.ladd, 1) := by decide +kernel
theorem kRW_leading_d59 : decode prog_14_method_21_code 59 = .ok (.lstore 4, 2) := by decide +kernel
theorem kRW_leading_d61 : decode prog_14_method_21_code 61 = .ok (.iinc 6 (-1), 3) := by decide +kernel
theorem kRW_leading_d64 : decode prog_14_method_21_code 64 = .ok (.goto (-39), 3) := by decide +kernel
theorem kRW_leading_d67 : decode prog_14_method_21_code 67 = .ok (.lload 4, 2) := by decide +kernel
theorem kRW_leading_d69 : decode prog_14_method_21_code 69 = .ok (.lreturn, 1) := by decide +kernel
theorem kRW_takes_d0 : decode prog_14_method_22_code 0 = .ok (.iconst 0, 1) := by decide +kernel
theorem kRW_takes_d1 : decode prog_14_method_22_code 1 = .ok (.istore 5, 2) := by decide +kernel
theorem kRW_takes_d3 : decode prog_14_method_22_code 3 = .ok (.iconst 0, 1) := by decide +kernel
theorem kRW_takes_d4 : decode prog_14_method_22_code 4 = .ok (.istore 6, 2) := by decide +kernel
theorem kRW_takes_d6 : decode prog_14_method_22_code 6 = .ok (.iload 6, 2) := by decide +kernel
theorem kRW_takes_d8 : decode prog_14_method_22_code 8 = .ok (.iload_n 3, 1) := by decide +kernel
theorem kRW_takes_d9 : decode prog_14_method_22_code 9 = .ok (.if_icmp .gt 77, 3) := by decide +kernel
theorem kRW_takes_d12 : decode prog_14_method_22_code 12 = .ok (.aload_n 0, 1) := by decide +kernel
theorem kRW_takes_d13 : decode prog_14_method_22_code 13 = .ok (.getfield 7, 3) := by decide +kernel
theorem kRW_takes_d16 : decode prog_14_method_22_code 16 = .ok (.iload_n 1, 1) := by decide +kernel
theorem kRW_takes_d17 : decode prog_14_method_22_code 17 = .ok (.iload 6, 2) := by decide +kernel
theorem kRW_takes_d19 : decode prog_14_method_22_code 19 = .ok (.iadd, 1) := by decide +kernel
theorem kRW_takes_d20 : decode prog_14_method_22_code 20 = .ok (.iaload, 1) := by decide +kernel
theorem kRW_takes_d21 : decode prog_14_method_22_code 21 = .ok (.iload 5, 2) := by decide +kernel
theorem kRW_takes_d23 : decode prog_14_method_22_code 23 = .ok (.isub, 1) := by decide +kernel
theorem kRW_takes_d24 : decode prog_14_method_22_code 24 = .ok (.iload 6, 2) := by decide +kernel
theorem kRW_takes_d26 : decode prog_14_method_22_code 26 = .ok (.iload_n 3, 1) := by decide +kernel
theorem kRW_takes_d27 : decode prog_14_method_22_code 27 = .ok (.if_icmp .ge 20, 3) := by decide +kernel
theorem kRW_takes_d30 : decode prog_14_method_22_code 30 = .ok (.iload 4, 2) := by decide +kernel
theorem kRW_takes_d32 : decode prog_14_method_22_code 32 = .ok (.aload_n 0, 1) := by decide +kernel
theorem kRW_takes_d33 : decode prog_14_method_22_code 33 = .ok (.getfield 7, 3) := by decide +kernel
theorem kRW_takes_d36 : decode prog_14_method_22_code 36 = .ok (.iload_n 2, 1) := by decide +kernel
theorem kRW_takes_d37 : decode prog_14_method_22_code 37 = .ok (.iconst 1, 1) := by decide +kernel
theorem kRW_takes_d38 : decode prog_14_method_22_code 38 = .ok (.iadd, 1) := by decide +kernel
theorem kRW_takes_d39 : decode prog_14_method_22_code 39 = .ok (.iload 6, 2) := by decide +kernel
theorem kRW_takes_d41 : decode prog_14_method_22_code 41 = .ok (.iadd, 1) := by decide +kernel
theorem kRW_takes_d42 : decode prog_14_method_22_code 42 = .ok (.iaload, 1) := by decide +kernel
theorem kRW_takes_d43 : decode prog_14_method_22_code 43 = .ok (.imul, 1) := by decide +kernel
theorem kRW_takes_d44 : decode prog_14_method_22_code 44 = .ok (.goto 4, 3) := by decide +kernel
theorem kRW_takes_d47 : decode prog_14_method_22_code 47 = .ok (.iconst 0, 1) := by decide +kernel
theorem kRW_takes_d48 : decode prog_14_method_22_code 48 = .ok (.isub, 1) := by decide +kernel
theorem kRW_takes_d49 : decode prog_14_method_22_code 49 = .ok (.istore 7, 2) := by decide +kernel
theorem kRW_takes_d51 : decode prog_14_method_22_code 51 = .ok (.iload 7, 2) := by decide +kernel
theorem kRW_takes_d53 : decode prog_14_method_22_code 53 = .ok (.sipush 32767, 3) := by decide +kernel
theorem kRW_takes_d56 : decode prog_14_method_22_code 56 = .ok (.iand, 1) := by decide +kernel
theorem kRW_takes_d57 : decode prog_14_method_22_code 57 = .ok (.istore 8, 2) := by decide +kernel
theorem kRW_takes_d59 : decode prog_14_method_22_code 59 = .ok (.iload 8, 2) := by decide +kernel
theorem kRW_takes_d61 : decode prog_14_method_22_code 61 = .ok (.iload 7, 2) := by decide +kernel
theorem kRW_takes_d63 : decode prog_14_method_22_code 63 = .ok (.isub, 1) := by decide +kernel
theorem kRW_takes_d64 : decode prog_14_method_22_code 64 = .ok (.bipush 15, 2) := by decide +kernel
theorem kRW_takes_d66 : decode prog_14_method_22_code 66 = .ok (.ishr, 1) := by decide +kernel
theorem kRW_takes_d67 : decode prog_14_method_22_code 67 = .ok (.istore 5, 2) := by decide +kernel
theorem kRW_takes_d69 : decode prog_14_method_22_code 69 = .ok (.aload_n 0, 1) := by decide +kernel
theorem kRW_takes_d70 : decode prog_14_method_22_code 70 = .ok (.getfield 7, 3) := by decide +kernel
theorem kRW_takes_d73 : decode prog_14_method_22_code 73 = .ok (.iload_n 1, 1) := by decide +kernel
theorem kRW_takes_d74 : decode prog_14_method_22_code 74 = .ok (.iload 6, 2) := by decide +kernel
theorem kRW_takes_d76 : decode prog_14_method_22_code 76 = .ok (.iadd, 1) := by decide +kernel
theorem kRW_takes_d77 : decode prog_14_method_22_code 77 = .ok (.iload 8, 2) := by decide +kernel
theorem kRW_takes_d79 : decode prog_14_method_22_code 79 = .ok (.iastore, 1) := by decide +kernel
theorem kRW_takes_d80 : decode prog_14_method_22_code 80 = .ok (.iinc 6 1, 3) := by decide +kernel
theorem kRW_takes_d83 : decode prog_14_method_22_code 83 = .ok (.goto (-77), 3) := by decide +kernel
theorem kRW_takes_d86 : decode prog_14_method_22_code 86 = .ok (.iload 5, 2) := by decide +kernel
theorem kRW_takes_d88 : decode prog_14_method_22_code 88 = .ok (.ifCond .ne 5, 3) := by decide +kernel
theorem kRW_takes_d91 : decode prog_14_method_22_code 91 = .ok (.iconst 1, 1) := by decide +kernel
theorem kRW_takes_d92 : decode prog_14_method_22_code 92 = .ok (.ireturn, 1) := by decide +kernel
theorem kRW_takes_d93 : decode prog_14_method_22_code 93 = .ok (.iconst 0, 1) := by decide +kernel
theorem kRW_takes_d94 : decode prog_14_method_22_code 94 = .ok (.istore 6, 2) := by decide +kernel
theorem kRW_takes_d96 : decode prog_14_method_22_code 96 = .ok (.iconst 0, 1) := by decide +kernel
theorem kRW_takes_d97 : decode prog_14_method_22_code 97 = .ok (.istore 7, 2) := by decide +kernel
theorem kRW_takes_d99 : decode prog_14_method_22_code 99 = .ok (.iload 7, 2) := by decide +kernel
theorem kRW_takes_d101 : decode prog_14_method_22_code 101 = .ok (.iload_n 3, 1) := by decide +kernel
theorem kRW_takes_d102 : decode prog_14_method_22_code 102 = .ok (.if_icmp .gt 70, 3) := by decide +kernel
theorem kRW_takes_d105 : decode prog_14_method_22_code 105 = .ok (.iload 6, 2) := by decide +kernel
theorem kRW_takes_d107 : decode prog_14_method_22_code 107 = .ok (.aload_n 0, 1) := by decide +kernel
theorem kRW_takes_d108 : decode prog_14_method_22_code 108 = .ok (.getfield 7, 3) := by decide +kernel
theorem kRW_takes_d111 : decode prog_14_method_22_code 111 = .ok (.iload_n 1, 1) := by decide +kernel
theorem kRW_takes_d112 : decode prog_14_method_22_code 112 = .ok (.iload 7, 2) := by decide +kernel
theorem kRW_takes_d114 : decode prog_14_method_22_code 114 = .ok (.iadd, 1) := by decide +kernel
theorem kRW_takes_d115 : decode prog_14_method_22_code 115 = .ok (.iaload, 1) := by decide +kernel
theorem kRW_takes_d116 : decode prog_14_method_22_code 116 = .ok (.iload 7, 2) := by decide +kernel
theorem kRW_takes_d118 : decode prog_14_method_22_code 118 = .ok (.iload_n 3, 1) := by decide +kernel
theorem kRW_takes_d119 : decode prog_14_method_22_code 119 = .ok (.if_icmp .ge 20, 3) := by decide +kernel
theorem kRW_takes_d122 : decode prog_14_method_22_code 122 = .ok (.iload 4, 2) := by decide +kernel
theorem kRW_takes_d124 : decode prog_14_method_22_code 124 = .ok (.aload_n 0, 1) := by decide +kernel
theorem kRW_takes_d125 : decode prog_14_method_22_code 125 = .ok (.getfield 7, 3) := by decide +kernel
theorem kRW_takes_d128 : decode prog_14_method_22_code 128 = .ok (.iload_n 2, 1) := by decide +kernel
theorem kRW_takes_d129 : decode prog_14_method_22_code 129 = .ok (.iconst 1, 1) := by decide +kernel
theorem kRW_takes_d130 : decode prog_14_method_22_code 130 = .ok (.iadd, 1) := by decide +kernel
theorem kRW_takes_d131 : decode prog_14_method_22_code 131 = .ok (.iload 7, 2) := by decide +kernel
theorem kRW_takes_d133 : decode prog_14_method_22_code 133 = .ok (.iadd, 1) := by decide +kernel
theorem kRW_takes_d134 : decode prog_14_method_22_code 134 = .ok (.iaload, 1) := by decide +kernel
theorem kRW_takes_d135 : decode prog_14_method_22_code 135 = .ok (.imul, 1) := by decide +kernel
theorem kRW_takes_d136 : decode prog_14_method_22_code 136 = .ok (.goto 4, 3) := by decide +kernel
theorem kRW_takes_d139 : decode prog_14_method_22_code 139 = .ok (.iconst 0, 1) := by decide +kernel
theorem kRW_takes_d140 : decode prog_14_method_22_code 140 = .ok (.iadd, 1) := by decide +kernel
theorem kRW_takes_d141 : decode prog_14_method_22_code 141 = .ok (.iadd, 1) := by decide +kernel
theorem kRW_takes_d142 : decode prog_14_method_22_code 142 = .ok (.istore 6, 2) := by decide +kernel
theorem kRW_takes_d144 : decode prog_14_method_22_code 144 = .ok (.aload_n 0, 1) := by decide +kernel
theorem kRW_takes_d145 : decode prog_14_method_22_code 145 = .ok (.getfield 7, 3) := by decide +kernel
theorem kRW_takes_d148 : decode prog_14_method_22_code 148 = .ok (.iload_n 1, 1) := by decide +kernel
theorem kRW_takes_d149 : decode prog_14_method_22_code 149 = .ok (.iload 7, 2) := by decide +kernel
theorem kRW_takes_d151 : decode prog_14_method_22_code 151 = .ok (.iadd, 1) := by decide +kernel
theorem kRW_takes_d152 : decode prog_14_method_22_code 152 = .ok (.iload 6, 2) := by decide +kernel
theorem kRW_takes_d154 : decode prog_14_method_22_code 154 = .ok (.sipush 32767, 3) := by decide +kernel
theorem kRW_takes_d157 : decode prog_14_method_22_code 157 = .ok (.iand, 1) := by decide +kernel
theorem kRW_takes_d158 : decode prog_14_method_22_code 158 = .ok (.iastore, 1) := by decide +kernel
theorem kRW_takes_d159 : decode prog_14_method_22_code 159 = .ok (.iload 6, 2) := by decide +kernel
theorem kRW_takes_d161 : decode prog_14_method_22_code 161 = .ok (.bipush 15, 2) := by decide +kernel
theorem kRW_takes_d163 : decode prog_14_method_22_code 163 = .ok (.ishr, 1) := by decide +kernel
theorem kRW_takes_d164 : decode prog_14_method_22_code 164 = .ok (.istore 6, 2) := by decide +kernel
theorem kRW_takes_d166 : decode prog_14_method_22_code 166 = .ok (.iinc 7 1, 3) := by decide +kernel
theorem kRW_takes_d169 : decode prog_14_method_22_code 169 = .ok (.goto (-70), 3) := by decide +kernel
theorem kRW_takes_d172 : decode prog_14_method_22_code 172 = .ok (.iconst 0, 1) := by decide +kernel
theorem kRW_takes_d173 : decode prog_14_method_22_code 173 = .ok (.ireturn, 1) := by decide +kernel
theorem kRW_subtract_d0 : decode prog_14_method_18_code 0 = .ok (.aload_n 0, 1) := by decide +kernel
theorem kRW_subtract_d1 : decode prog_14_method_18_code 1 = .ok (.iload_n 1, 1) := by decide +kernel
theorem kRW_subtract_d2 : decode prog_14_method_18_code 2 = .ok (.iload_n 2, 1) := by decide +kernel
theorem kRW_subtract_d3 : decode prog_14_method_18_code 3 = .ok (.iconst 1, 1) := by decide +kernel
theorem kRW_subtract_d4 : decode prog_14_method_18_code 4 = .ok (.invokevirtual 66, 3) := by decide +kernel
theorem kRW_subtract_d7 : decode prog_14_method_18_code 7 = .ok (.ireturn, 1) := by decide +kernel
theorem kRW_combine_d0 : decode prog_14_method_16_code 0 = .ok (.aload_n 0, 1) := by decide +kernel
theorem kRW_combine_d1 : decode prog_14_method_16_code 1 = .ok (.getfield 7, 3) := by decide +kernel
theorem kRW_combine_d4 : decode prog_14_method_16_code 4 = .ok (.iload_n 1, 1) := by decide +kernel
theorem kRW_combine_d5 : decode prog_14_method_16_code 5 = .ok (.iaload, 1) := by decide +kernel
theorem kRW_combine_d6 : decode prog_14_method_16_code 6 = .ok (.ifCond .ge 7, 3) := by decide +kernel
theorem kRW_combine_d9 : decode prog_14_method_16_code 9 = .ok (.iconst 1, 1) := by decide +kernel
theorem kRW_combine_d10 : decode prog_14_method_16_code 10 = .ok (.goto 4, 3) := by decide +kernel
theorem kRW_combine_d13 : decode prog_14_method_16_code 13 = .ok (.iconst 0, 1) := by decide +kernel
theorem kRW_combine_d14 : decode prog_14_method_16_code 14 = .ok (.istore 4, 2) := by decide +kernel
theorem kRW_combine_d16 : decode prog_14_method_16_code 16 = .ok (.aload_n 0, 1) := by decide +kernel
theorem kRW_combine_d17 : decode prog_14_method_16_code 17 = .ok (.getfield 7, 3) := by decide +kernel
theorem kRW_combine_d20 : decode prog_14_method_16_code 20 = .ok (.iload_n 2, 1) := by decide +kernel
theorem kRW_combine_d21 : decode prog_14_method_16_code 21 = .ok (.iaload, 1) := by decide +kernel
theorem kRW_combine_d22 : decode prog_14_method_16_code 22 = .ok (.ifCond .ge 7, 3) := by decide +kernel
theorem kRW_combine_d25 : decode prog_14_method_16_code 25 = .ok (.iconst 1, 1) := by decide +kernel
theorem kRW_combine_d26 : decode prog_14_method_16_code 26 = .ok (.goto 4, 3) := by decide +kernel
theorem kRW_combine_d29 : decode prog_14_method_16_code 29 = .ok (.iconst 0, 1) := by decide +kernel
theorem kRW_combine_d30 : decode prog_14_method_16_code 30 = .ok (.iload_n 3, 1) := by decide +kernel
theorem kRW_combine_d31 : decode prog_14_method_16_code 31 = .ok (.if_icmp .eq 7, 3) := by decide +kernel
theorem kRW_combine_d34 : decode prog_14_method_16_code 34 = .ok (.iconst 1, 1) := by decide +kernel
theorem kRW_combine_d35 : decode prog_14_method_16_code 35 = .ok (.goto 4, 3) := by decide +kernel
theorem kRW_combine_d38 : decode prog_14_method_16_code 38 = .ok (.iconst 0, 1) := by decide +kernel
theorem kRW_combine_d39 : decode prog_14_method_16_code 39 = .ok (.istore 5, 2) := by decide +kernel
theorem kRW_combine_d41 : decode prog_14_method_16_code 41 = .ok (.iload 4, 2) := by decide +kernel
theorem kRW_combine_d43 : decode prog_14_method_16_code 43 = .ok (.iload 5, 2) := by decide +kernel
theorem kRW_combine_d45 : decode prog_14_method_16_code 45 = .ok (.if_icmp .ne 12, 3) := by decide +kernel
theorem kRW_combine_d48 : decode prog_14_method_16_code 48 = .ok (.aload_n 0, 1) := by decide +kernel
theorem kRW_combine_d49 : decode prog_14_method_16_code 49 = .ok (.iload_n 1, 1) := by decide +kernel
theorem kRW_combine_d50 : decode prog_14_method_16_code 50 = .ok (.iload_n 2, 1) := by decide +kernel
theorem kRW_combine_d51 : decode prog_14_method_16_code 51 = .ok (.iload 4, 2) := by decide +kernel
theorem kRW_combine_d53 : decode prog_14_method_16_code 53 = .ok (.invokevirtual 59, 3) := by decide +kernel
theorem kRW_combine_d56 : decode prog_14_method_16_code 56 = .ok (.ireturn, 1) := by decide +kernel
theorem kRW_combine_d57 : decode prog_14_method_16_code 57 = .ok (.aload_n 0, 1) := by decide +kernel
theorem kRW_combine_d58 : decode prog_14_method_16_code 58 = .ok (.iload_n 1, 1) := by decide +kernel
theorem kRW_combine_d59 : decode prog_14_method_16_code 59 = .ok (.iload_n 2, 1) := by decide +kernel
theorem kRW_combine_d60 : decode prog_14_method_16_code 60 = .ok (.invokevirtual 46, 3) := by decide +kernel
theorem kRW_combine_d63 : decode prog_14_method_16_code 63 = .ok (.ifCond .lt 14, 3) := by decide +kernel
theorem kRW_combine_d66 : decode prog_14_method_16_code 66 = .ok (.aload_n 0, 1) := by decide +kernel
theorem kRW_combine_d67 : decode prog_14_method_16_code 67 = .ok (.iload_n 1, 1) := by decide +kernel
theorem kRW_combine_d68 : decode prog_14_method_16_code 68 = .ok (.iload_n 2, 1) := by decide +kernel
theorem kRW_combine_d69 : decode prog_14_method_16_code 69 = .ok (.iload 4, 2) := by decide +kernel
theorem kRW_combine_d71 : decode prog_14_method_16_code 71 = .ok (.invokevirtual 63, 3) := by decide +kernel
theorem kRW_combine_d74 : decode prog_14_method_16_code 74 = .ok (.goto 11, 3) := by decide +kernel
theorem kRW_combine_d77 : decode prog_14_method_16_code 77 = .ok (.aload_n 0, 1) := by decide +kernel
theorem kRW_combine_d78 : decode prog_14_method_16_code 78 = .ok (.iload_n 2, 1) := by decide +kernel
theorem kRW_combine_d79 : decode prog_14_method_16_code 79 = .ok (.iload_n 1, 1) := by decide +kernel
theorem kRW_combine_d80 : decode prog_14_method_16_code 80 = .ok (.iload 5, 2) := by decide +kernel
theorem kRW_combine_d82 : decode prog_14_method_16_code 82 = .ok (.invokevirtual 63, 3) := by decide +kernel
theorem kRW_combine_d85 : decode prog_14_method_16_code 85 = .ok (.ireturn, 1) := by decide +kernel
theorem kRW_sumSizes_d0 : decode prog_14_method_14_code 0 = .ok (.aload_n 0, 1) := by decide +kernel
theorem kRW_sumSizes_d1 : decode prog_14_method_14_code 1 = .ok (.iload_n 1, 1) := by decide +kernel
theorem kRW_sumSizes_d2 : decode prog_14_method_14_code 2 = .ok (.invokevirtual 23, 3) := by decide +kernel
theorem kRW_sumSizes_d5 : decode prog_14_method_14_code 5 = .ok (.aload_n 0, 1) := by decide +kernel
theorem kRW_sumSizes_d6 : decode prog_14_method_14_code 6 = .ok (.iload_n 2, 1) := by decide +kernel
theorem kRW_sumSizes_d7 : decode prog_14_method_14_code 7 = .ok (.invokevirtual 23, 3) := by decide +kernel
theorem kRW_sumSizes_d10 : decode prog_14_method_14_code 10 = .ok (.invokestatic 50, 3) := by decide +kernel
theorem kRW_sumSizes_d13 : decode prog_14_method_14_code 13 = .ok (.iconst 1, 1) := by decide +kernel
theorem kRW_sumSizes_d14 : decode prog_14_method_14_code 14 = .ok (.iadd, 1) := by decide +kernel
theorem kRW_sumSizes_d15 : decode prog_14_method_14_code 15 = .ok (.istore 4, 2) := by decide +kernel
theorem kRW_sumSizes_d17 : decode prog_14_method_14_code 17 = .ok (.aload_n 0, 1) := by decide +kernel
theorem kRW_sumSizes_d18 : decode prog_14_method_14_code 18 = .ok (.iload 4, 2) := by decide +kernel
theorem kRW_sumSizes_d20 : decode prog_14_method_14_code 20 = .ok (.iconst 1, 1) := by decide +kernel
theorem kRW_sumSizes_d21 : decode prog_14_method_14_code 21 = .ok (.iadd, 1) := by decide +kernel
theorem kRW_sumSizes_d22 : decode prog_14_method_14_code 22 = .ok (.invokevirtual 27, 3) := by decide +kernel
theorem kRW_sumSizes_d25 : decode prog_14_method_14_code 25 = .ok (.iconst 0, 1) := by decide +kernel
theorem kRW_sumSizes_d26 : decode prog_14_method_14_code 26 = .ok (.istore 5, 2) := by decide +kernel
theorem kRW_sumSizes_d28 : decode prog_14_method_14_code 28 = .ok (.iconst 0, 1) := by decide +kernel
theorem kRW_sumSizes_d29 : decode prog_14_method_14_code 29 = .ok (.istore 6, 2) := by decide +kernel
theorem kRW_sumSizes_d31 : decode prog_14_method_14_code 31 = .ok (.iload 6, 2) := by decide +kernel
theorem kRW_sumSizes_d33 : decode prog_14_method_14_code 33 = .ok (.iload 4, 2) := by decide +kernel
theorem kRW_sumSizes_d35 : decode prog_14_method_14_code 35 = .ok (.if_icmp .ge 55, 3) := by decide +kernel
theorem kRW_sumSizes_d38 : decode prog_14_method_14_code 38 = .ok (.iload 5, 2) := by decide +kernel
theorem kRW_sumSizes_d40 : decode prog_14_method_14_code 40 = .ok (.aload_n 0, 1) := by decide +kernel
theorem kRW_sumSizes_d41 : decode prog_14_method_14_code 41 = .ok (.iload_n 1, 1) := by decide +kernel
theorem kRW_sumSizes_d42 : decode prog_14_method_14_code 42 = .ok (.iload 6, 2) := by decide +kernel
theorem kRW_sumSizes_d44 : decode prog_14_method_14_code 44 = .ok (.invokevirtual 55, 3) := by decide +kernel
theorem kRW_sumSizes_d47 : decode prog_14_method_14_code 47 = .ok (.aload_n 0, 1) := by decide +kernel
theorem kRW_sumSizes_d48 : decode prog_14_method_14_code 48 = .ok (.iload_n 2, 1) := by decide +kernel
theorem kRW_sumSizes_d49 : decode prog_14_method_14_code 49 = .ok (.iload 6, 2) := by decide +kernel
theorem kRW_sumSizes_d51 : decode prog_14_method_14_code 51 = .ok (.invokevirtual 55, 3) := by decide +kernel
theorem kRW_sumSizes_d54 : decode prog_14_method_14_code 54 = .ok (.iadd, 1) := by decide +kernel
theorem kRW_sumSizes_d55 : decode prog_14_method_14_code 55 = .ok (.iadd, 1) := by decide +kernel
theorem kRW_sumSizes_d56 : decode prog_14_method_14_code 56 = .ok (.istore 5, 2) := by decide +kernel
theorem kRW_sumSizes_d58 : decode prog_14_method_14_code 58 = .ok (.aload_n 0, 1) := by decide +kernel
theorem kRW_sumSizes_d59 : decode prog_14_method_14_code 59 = .ok (.getfield 7, 3) := by decide +kernel
theorem kRW_sumSizes_d62 : decode prog_14_method_14_code 62 = .ok (.aload_n 0, 1) := by decide +kernel
theorem kRW_sumSizes_d63 : decode prog_14_method_14_code 63 = .ok (.getfield 13, 3) := by decide +kernel
theorem kRW_sumSizes_d66 : decode prog_14_method_14_code 66 = .ok (.iconst 1, 1) := by decide +kernel
theorem kRW_sumSizes_d67 : decode prog_14_method_14_code 67 = .ok (.iadd, 1) := by decide +kernel
theorem kRW_sumSizes_d68 : decode prog_14_method_14_code 68 = .ok (.iload 6, 2) := by decide +kernel
theorem kRW_sumSizes_d70 : decode prog_14_method_14_code 70 = .ok (.iadd, 1) := by decide +kernel
theorem kRW_sumSizes_d71 : decode prog_14_method_14_code 71 = .ok (.iload 5, 2) := by decide +kernel
theorem kRW_sumSizes_d73 : decode prog_14_method_14_code 73 = .ok (.ldc 58, 2) := by decide +kernel
theorem kRW_sumSizes_d75 : decode prog_14_method_14_code 75 = .ok (.irem, 1) := by decide +kernel
theorem kRW_sumSizes_d76 : decode prog_14_method_14_code 76 = .ok (.iastore, 1) := by decide +kernel
theorem kRW_sumSizes_d77 : decode prog_14_method_14_code 77 = .ok (.iload 5, 2) := by decide +kernel
theorem kRW_sumSizes_d79 : decode prog_14_method_14_code 79 = .ok (.ldc 58, 2) := by decide +kernel
theorem kRW_sumSizes_d81 : decode prog_14_method_14_code 81 = .ok (.idiv, 1) := by decide +kernel
theorem kRW_sumSizes_d82 : decode prog_14_method_14_code 82 = .ok (.istore 5, 2) := by decide +kernel
theorem kRW_sumSizes_d84 : decode prog_14_method_14_code 84 = .ok (.iinc 6 1, 3) := by decide +kernel
theorem kRW_sumSizes_d87 : decode prog_14_method_14_code 87 = .ok (.goto (-56), 3) := by decide +kernel
theorem kRW_sumSizes_d90 : decode prog_14_method_14_code 90 = .ok (.aload_n 0, 1) := by decide +kernel
theorem kRW_sumSizes_d91 : decode prog_14_method_14_code 91 = .ok (.iload 4, 2) := by decide +kernel
theorem kRW_sumSizes_d93 : decode prog_14_method_14_code 93 = .ok (.iload_n 3, 1) := by decide +kernel
theorem kRW_sumSizes_d94 : decode prog_14_method_14_code 94 = .ok (.invokevirtual 33, 3) := by decide +kernel
theorem kRW_sumSizes_d97 : decode prog_14_method_14_code 97 = .ok (.ireturn, 1) := by decide +kernel
theorem kRW_digit_d0 : decode prog_14_method_5_code 0 = .ok (.iload_n 2, 1) := by decide +kernel
theorem kRW_digit_d1 : decode prog_14_method_5_code 1 = .ok (.aload_n 0, 1) := by decide +kernel
theorem kRW_digit_d2 : decode prog_14_method_5_code 2 = .ok (.iload_n 1, 1) := by decide +kernel
theorem kRW_digit_d3 : decode prog_14_method_5_code 3 = .ok (.invokevirtual 23, 3) := by decide +kernel
theorem kRW_digit_d6 : decode prog_14_method_5_code 6 = .ok (.if_icmp .ge 16, 3) := by decide +kernel
theorem kRW_digit_d9 : decode prog_14_method_5_code 9 = .ok (.aload_n 0, 1) := by decide +kernel
theorem kRW_digit_d10 : decode prog_14_method_5_code 10 = .ok (.getfield 7, 3) := by decide +kernel
theorem kRW_digit_d13 : decode prog_14_method_5_code 13 = .ok (.iload_n 1, 1) := by decide +kernel
theorem kRW_digit_d14 : decode prog_14_method_5_code 14 = .ok (.iconst 1, 1) := by decide +kernel
theorem kRW_digit_d15 : decode prog_14_method_5_code 15 = .ok (.iadd, 1) := by decide +kernel
theorem kRW_digit_d16 : decode prog_14_method_5_code 16 = .ok (.iload_n 2, 1) := by decide +kernel
theorem kRW_digit_d17 : decode prog_14_method_5_code 17 = .ok (.iadd, 1) := by decide +kernel
theorem kRW_digit_d18 : decode prog_14_method_5_code 18 = .ok (.iaload, 1) := by decide +kernel
theorem kRW_digit_d19 : decode prog_14_method_5_code 19 = .ok (.goto 4, 3) := by decide +kernel
theorem kRW_digit_d22 : decode prog_14_method_5_code 22 = .ok (.iconst 0, 1) := by decide +kernel
theorem kRW_digit_d23 : decode prog_14_method_5_code 23 = .ok (.ireturn, 1) := by decide +kernel
theorem kRW_orderSizes_d0 : decode prog_14_method_12_code 0 = .ok (.aload_n 0, 1) := by decide +kernel
theorem kRW_orderSizes_d1 : decode prog_14_method_12_code 1 = .ok (.iload_n 1, 1) := by decide +kernel
theorem kRW_orderSizes_d2 : decode prog_14_method_12_code 2 = .ok (.invokevirtual 23, 3) := by decide +kernel
theorem kRW_orderSizes_d5 : decode prog_14_method_12_code 5 = .ok (.istore_n 3, 1) := by decide +kernel
theorem kRW_orderSizes_d6 : decode prog_14_method_12_code 6 = .ok (.aload_n 0, 1) := by decide +kernel
theorem kRW_orderSizes_d7 : decode prog_14_method_12_code 7 = .ok (.iload_n 2, 1) := by decide +kernel
theorem kRW_orderSizes_d8 : decode prog_14_method_12_code 8 = .ok (.invokevirtual 23, 3) := by decide +kernel
theorem kRW_orderSizes_d11 : decode prog_14_method_12_code 11 = .ok (.istore 4, 2) := by decide +kernel
theorem kRW_orderSizes_d13 : decode prog_14_method_12_code 13 = .ok (.iload_n 3, 1) := by decide +kernel
theorem kRW_orderSizes_d14 : decode prog_14_method_12_code 14 = .ok (.iload 4, 2) := by decide +kernel
theorem kRW_orderSizes_d16 : decode prog_14_method_12_code 16 = .ok (.if_icmp .eq 15, 3) := by decide +kernel
theorem kRW_orderSizes_d19 : decode prog_14_method_12_code 19 = .ok (.iload_n 3, 1) := by decide +kernel
theorem kRW_orderSizes_d20 : decode prog_14_method_12_code 20 = .ok (.iload 4, 2) := by decide +kernel
theorem kRW_orderSizes_d22 : decode prog_14_method_12_code 22 = .ok (.if_icmp .ge 7, 3) := by decide +kernel
theorem kRW_orderSizes_d25 : decode prog_14_method_12_code 25 = .ok (.iconst (-1), 1) := by decide +kernel
theorem kRW_orderSizes_d26 : decode prog_14_method_12_code 26 = .ok (.goto 4, 3) := by decide +kernel
theorem kRW_orderSizes_d29 : decode prog_14_method_12_code 29 = .ok (.iconst 1, 1) := by decide +kernel
theorem kRW_orderSizes_d30 : decode prog_14_method_12_code 30 = .ok (.ireturn, 1) := by decide +kernel
theorem kRW_orderSizes_d31 : decode prog_14_method_12_code 31 = .ok (.iload_n 3, 1) := by decide +kernel
theorem kRW_orderSizes_d32 : decode prog_14_method_12_code 32 = .ok (.istore 5, 2) := by decide +kernel
theorem kRW_orderSizes_d34 : decode prog_14_method_12_code 34 = .ok (.iload 5, 2) := by decide +kernel
theorem kRW_orderSizes_d36 : decode prog_14_method_12_code 36 = .ok (.ifCond .le 57, 3) := by decide +kernel
theorem kRW_orderSizes_d39 : decode prog_14_method_12_code 39 = .ok (.aload_n 0, 1) := by decide +kernel
theorem kRW_orderSizes_d40 : decode prog_14_method_12_code 40 = .ok (.getfield 7, 3) := by decide +kernel
theorem kRW_orderSizes_d43 : decode prog_14_method_12_code 43 = .ok (.iload_n 1, 1) := by decide +kernel
theorem kRW_orderSizes_d44 : decode prog_14_method_12_code 44 = .ok (.iload 5, 2) := by decide +kernel
theorem kRW_orderSizes_d46 : decode prog_14_method_12_code 46 = .ok (.iadd, 1) := by decide +kernel
theorem kRW_orderSizes_d47 : decode prog_14_method_12_code 47 = .ok (.iaload, 1) := by decide +kernel
theorem kRW_orderSizes_d48 : decode prog_14_method_12_code 48 = .ok (.aload_n 0, 1) := by decide +kernel
theorem kRW_orderSizes_d49 : decode prog_14_method_12_code 49 = .ok (.getfield 7, 3) := by decide +kernel
theorem kRW_orderSizes_d52 : decode prog_14_method_12_code 52 = .ok (.iload_n 2, 1) := by decide +kernel
theorem kRW_orderSizes_d53 : decode prog_14_method_12_code 53 = .ok (.iload 5, 2) := by decide +kernel
theorem kRW_orderSizes_d55 : decode prog_14_method_12_code 55 = .ok (.iadd, 1) := by decide +kernel
theorem kRW_orderSizes_d56 : decode prog_14_method_12_code 56 = .ok (.iaload, 1) := by decide +kernel
theorem kRW_orderSizes_d57 : decode prog_14_method_12_code 57 = .ok (.if_icmp .eq 30, 3) := by decide +kernel
theorem kRW_orderSizes_d60 : decode prog_14_method_12_code 60 = .ok (.aload_n 0, 1) := by decide +kernel
theorem kRW_orderSizes_d61 : decode prog_14_method_12_code 61 = .ok (.getfield 7, 3) := by decide +kernel
theorem kRW_orderSizes_d64 : decode prog_14_method_12_code 64 = .ok (.iload_n 1, 1) := by decide +kernel
theorem kRW_orderSizes_d65 : decode prog_14_method_12_code 65 = .ok (.iload 5, 2) := by decide +kernel
theorem kRW_orderSizes_d67 : decode prog_14_method_12_code 67 = .ok (.iadd, 1) := by decide +kernel
theorem kRW_orderSizes_d68 : decode prog_14_method_12_code 68 = .ok (.iaload, 1) := by decide +kernel
theorem kRW_orderSizes_d69 : decode prog_14_method_12_code 69 = .ok (.aload_n 0, 1) := by decide +kernel
theorem kRW_orderSizes_d70 : decode prog_14_method_12_code 70 = .ok (.getfield 7, 3) := by decide +kernel
theorem kRW_orderSizes_d73 : decode prog_14_method_12_code 73 = .ok (.iload_n 2, 1) := by decide +kernel
theorem kRW_orderSizes_d74 : decode prog_14_method_12_code 74 = .ok (.iload 5, 2) := by decide +kernel
theorem kRW_orderSizes_d76 : decode prog_14_method_12_code 76 = .ok (.iadd, 1) := by decide +kernel
theorem kRW_orderSizes_d77 : decode prog_14_method_12_code 77 = .ok (.iaload, 1) := by decide +kernel
theorem kRW_orderSizes_d78 : decode prog_14_method_12_code 78 = .ok (.if_icmp .ge 7, 3) := by decide +kernel
theorem kRW_orderSizes_d81 : decode prog_14_method_12_code 81 = .ok (.iconst (-1), 1) := by decide +kernel
theorem kRW_orderSizes_d82 : decode prog_14_method_12_code 82 = .ok (.goto 4, 3) := by decide +kernel
theorem kRW_orderSizes_d85 : decode prog_14_method_12_code 85 = .ok (.iconst 1, 1) := by decide +kernel
theorem kRW_orderSizes_d86 : decode prog_14_method_12_code 86 = .ok (.ireturn, 1) := by decide +kernel
theorem kRW_orderSizes_d87 : decode prog_14_method_12_code 87 = .ok (.iinc 5 (-1), 3) := by decide +kernel
theorem kRW_orderSizes_d90 : decode prog_14_method_12_code 90 = .ok (.goto (-56), 3) := by decide +kernel
theorem kRW_orderSizes_d93 : decode prog_14_method_12_code 93 = .ok (.iconst 0, 1) := by decide +kernel
theorem kRW_orderSizes_d94 : decode prog_14_method_12_code 94 = .ok (.ireturn, 1) := by decide +kernel
theorem kRW_lessSizes_d0 : decode prog_14_method_15_code 0 = .ok (.aload_n 0, 1) := by decide +kernel
theorem kRW_lessSizes_d1 : decode prog_14_method_15_code 1 = .ok (.iload_n 1, 1) := by decide +kernel
theorem kRW_lessSizes_d2 : decode prog_14_method_15_code 2 = .ok (.invokevirtual 23, 3) := by decide +kernel
theorem kRW_lessSizes_d5 : decode prog_14_method_15_code 5 = .ok (.istore 4, 2) := by decide +kernel
theorem kRW_lessSizes_d7 : decode prog_14_method_15_code 7 = .ok (.aload_n 0, 1) := by decide +kernel
theorem kRW_lessSizes_d8 : decode prog_14_method_15_code 8 = .ok (.iload 4, 2) := by decide +kernel
theorem kRW_lessSizes_d10 : decode prog_14_method_15_code 10 = .ok (.iconst 1, 1) := by decide +kernel
theorem kRW_lessSizes_d11 : decode prog_14_method_15_code 11 = .ok (.iadd, 1) := by decide +kernel
theorem kRW_lessSizes_d12 : decode prog_14_method_15_code 12 = .ok (.invokevirtual 27, 3) := by decide +kernel
theorem kRW_lessSizes_d15 : decode prog_14_method_15_code 15 = .ok (.iconst 0, 1) := by decide +kernel
theorem kRW_lessSizes_d16 : decode prog_14_method_15_code 16 = .ok (.istore 5, 2) := by decide +kernel
theorem kRW_lessSizes_d18 : decode prog_14_method_15_code 18 = .ok (.iconst 0, 1) := by decide +kernel
theorem kRW_lessSizes_d19 : decode prog_14_method_15_code 19 = .ok (.istore 6, 2) := by decide +kernel
theorem kRW_lessSizes_d21 : decode prog_14_method_15_code 21 = .ok (.iload 6, 2) := by decide +kernel
theorem kRW_lessSizes_d23 : decode prog_14_method_15_code 23 = .ok (.iload 4, 2) := by decide +kernel
theorem kRW_lessSizes_d25 : decode prog_14_method_15_code 25 = .ok (.if_icmp .ge 70, 3) := by decide +kernel
theorem kRW_lessSizes_d28 : decode prog_14_method_15_code 28 = .ok (.aload_n 0, 1) := by decide +kernel
theorem kRW_lessSizes_d29 : decode prog_14_method_15_code 29 = .ok (.iload_n 1, 1) := by decide +kernel
theorem kRW_lessSizes_d30 : decode prog_14_method_15_code 30 = .ok (.iload 6, 2) := by decide +kernel
theorem kRW_lessSizes_d32 : decode prog_14_method_15_code 32 = .ok (.invokevirtual 55, 3) := by decide +kernel
theorem kRW_lessSizes_d35 : decode prog_14_method_15_code 35 = .ok (.aload_n 0, 1) := by decide +kernel
theorem kRW_lessSizes_d36 : decode prog_14_method_15_code 36 = .ok (.iload_n 2, 1) := by decide +kernel
theorem kRW_lessSizes_d37 : decode prog_14_method_15_code 37 = .ok (.iload 6, 2) := by decide +kernel
theorem kRW_lessSizes_d39 : decode prog_14_method_15_code 39 = .ok (.invokevirtual 55, 3) := by decide +kernel
theorem kRW_lessSizes_d42 : decode prog_14_method_15_code 42 = .ok (.isub, 1) := by decide +kernel
theorem kRW_lessSizes_d43 : decode prog_14_method_15_code 43 = .ok (.iload 5, 2) := by decide +kernel
theorem kRW_lessSizes_d45 : decode prog_14_method_15_code 45 = .ok (.isub, 1) := by decide +kernel
theorem kRW_lessSizes_d46 : decode prog_14_method_15_code 46 = .ok (.istore 7, 2) := by decide +kernel
theorem kRW_lessSizes_d48 : decode prog_14_method_15_code 48 = .ok (.iload 7, 2) := by decide +kernel
theorem kRW_lessSizes_d50 : decode prog_14_method_15_code 50 = .ok (.ifCond .ge 7, 3) := by decide +kernel
theorem kRW_lessSizes_d53 : decode prog_14_method_15_code 53 = .ok (.iconst 1, 1) := by decide +kernel
theorem kRW_lessSizes_d54 : decode prog_14_method_15_code 54 = .ok (.goto 4, 3) := by decide +kernel
theorem kRW_lessSizes_d57 : decode prog_14_method_15_code 57 = .ok (.iconst 0, 1) := by decide +kernel
theorem kRW_lessSizes_d58 : decode prog_14_method_15_code 58 = .ok (.istore 5, 2) := by decide +kernel
theorem kRW_lessSizes_d60 : decode prog_14_method_15_code 60 = .ok (.aload_n 0, 1) := by decide +kernel
theorem kRW_lessSizes_d61 : decode prog_14_method_15_code 61 = .ok (.getfield 7, 3) := by decide +kernel
theorem kRW_lessSizes_d64 : decode prog_14_method_15_code 64 = .ok (.aload_n 0, 1) := by decide +kernel
theorem kRW_lessSizes_d65 : decode prog_14_method_15_code 65 = .ok (.getfield 13, 3) := by decide +kernel
theorem kRW_lessSizes_d68 : decode prog_14_method_15_code 68 = .ok (.iconst 1, 1) := by decide +kernel
theorem kRW_lessSizes_d69 : decode prog_14_method_15_code 69 = .ok (.iadd, 1) := by decide +kernel
theorem kRW_lessSizes_d70 : decode prog_14_method_15_code 70 = .ok (.iload 6, 2) := by decide +kernel
theorem kRW_lessSizes_d72 : decode prog_14_method_15_code 72 = .ok (.iadd, 1) := by decide +kernel
theorem kRW_lessSizes_d73 : decode prog_14_method_15_code 73 = .ok (.iload 7, 2) := by decide +kernel
theorem kRW_lessSizes_d75 : decode prog_14_method_15_code 75 = .ok (.ifCond .ge 11, 3) := by decide +kernel
theorem kRW_lessSizes_d78 : decode prog_14_method_15_code 78 = .ok (.iload 7, 2) := by decide +kernel
theorem kRW_lessSizes_d80 : decode prog_14_method_15_code 80 = .ok (.ldc 58, 2) := by decide +kernel
theorem kRW_lessSizes_d82 : decode prog_14_method_15_code 82 = .ok (.iadd, 1) := by decide +kernel
theorem kRW_lessSizes_d83 : decode prog_14_method_15_code 83 = .ok (.goto 5, 3) := by decide +kernel
theorem kRW_lessSizes_d86 : decode prog_14_method_15_code 86 = .ok (.iload 7, 2) := by decide +kernel
theorem kRW_lessSizes_d88 : decode prog_14_method_15_code 88 = .ok (.iastore, 1) := by decide +kernel
theorem kRW_lessSizes_d89 : decode prog_14_method_15_code 89 = .ok (.iinc 6 1, 3) := by decide +kernel
theorem kRW_lessSizes_d92 : decode prog_14_method_15_code 92 = .ok (.goto (-71), 3) := by decide +kernel
theorem kRW_lessSizes_d95 : decode prog_14_method_15_code 95 = .ok (.aload_n 0, 1) := by decide +kernel
theorem kRW_lessSizes_d96 : decode prog_14_method_15_code 96 = .ok (.iload 4, 2) := by decide +kernel
theorem kRW_lessSizes_d98 : decode prog_14_method_15_code 98 = .ok (.iload_n 3, 1) := by decide +kernel
theorem kRW_lessSizes_d99 : decode prog_14_method_15_code 99 = .ok (.invokevirtual 33, 3) := by decide +kernel
theorem kRW_lessSizes_d102 : decode prog_14_method_15_code 102 = .ok (.ireturn, 1) := by decide +kernel
theorem kRW_sign_d0 : decode prog_14_method_4_code 0 = .ok (.aload_n 0, 1) := by decide +kernel
theorem kRW_sign_d1 : decode prog_14_method_4_code 1 = .ok (.getfield 7, 3) := by decide +kernel
theorem kRW_sign_d4 : decode prog_14_method_4_code 4 = .ok (.iload_n 1, 1) := by decide +kernel
theorem kRW_sign_d5 : decode prog_14_method_4_code 5 = .ok (.iaload, 1) := by decide +kernel
theorem kRW_sign_d6 : decode prog_14_method_4_code 6 = .ok (.ifCond .ge 7, 3) := by decide +kernel
theorem kRW_sign_d9 : decode prog_14_method_4_code 9 = .ok (.iconst (-1), 1) := by decide +kernel
theorem kRW_sign_d10 : decode prog_14_method_4_code 10 = .ok (.goto 17, 3) := by decide +kernel
theorem kRW_sign_d13 : decode prog_14_method_4_code 13 = .ok (.aload_n 0, 1) := by decide +kernel
theorem kRW_sign_d14 : decode prog_14_method_4_code 14 = .ok (.getfield 7, 3) := by decide +kernel
theorem kRW_sign_d17 : decode prog_14_method_4_code 17 = .ok (.iload_n 1, 1) := by decide +kernel
theorem kRW_sign_d18 : decode prog_14_method_4_code 18 = .ok (.iaload, 1) := by decide +kernel
theorem kRW_sign_d19 : decode prog_14_method_4_code 19 = .ok (.ifCond .le 7, 3) := by decide +kernel
theorem kRW_sign_d22 : decode prog_14_method_4_code 22 = .ok (.iconst 1, 1) := by decide +kernel
theorem kRW_sign_d23 : decode prog_14_method_4_code 23 = .ok (.goto 4, 3) := by decide +kernel
theorem kRW_sign_d26 : decode prog_14_method_4_code 26 = .ok (.iconst 0, 1) := by decide +kernel
theorem kRW_sign_d27 : decode prog_14_method_4_code 27 = .ok (.ireturn, 1) := by decide +kernel
theorem kRW_moved_d0 : decode prog_14_method_25_code 0 = .ok (.iload_n 1, 1) := by decide +kernel
theorem kRW_moved_d1 : decode prog_14_method_25_code 1 = .ok (.ifCond .ne 10, 3) := by decide +kernel
theorem kRW_moved_d4 : decode prog_14_method_25_code 4 = .ok (.aload_n 0, 1) := by decide +kernel
theorem kRW_moved_d5 : decode prog_14_method_25_code 5 = .ok (.iload_n 2, 1) := by decide +kernel
theorem kRW_moved_d6 : decode prog_14_method_25_code 6 = .ok (.putfield 13, 3) := by decide +kernel
theorem kRW_moved_d9 : decode prog_14_method_25_code 9 = .ok (.iconst 0, 1) := by decide +kernel
theorem kRW_moved_d10 : decode prog_14_method_25_code 10 = .ok (.ireturn, 1) := by decide +kernel
theorem kRW_moved_d11 : decode prog_14_method_25_code 11 = .ok (.aload_n 0, 1) := by decide +kernel
theorem kRW_moved_d12 : decode prog_14_method_25_code 12 = .ok (.iload_n 1, 1) := by decide +kernel
theorem kRW_moved_d13 : decode prog_14_method_25_code 13 = .ok (.invokevirtual 23, 3) := by decide +kernel
theorem kRW_moved_d16 : decode prog_14_method_25_code 16 = .ok (.istore_n 3, 1) := by decide +kernel
theorem kRW_moved_d17 : decode prog_14_method_25_code 17 = .ok (.iconst 0, 1) := by decide +kernel
theorem kRW_moved_d18 : decode prog_14_method_25_code 18 = .ok (.istore 4, 2) := by decide +kernel
theorem kRW_moved_d20 : decode prog_14_method_25_code 20 = .ok (.iload 4, 2) := by decide +kernel
theorem kRW_moved_d22 : decode prog_14_method_25_code 22 = .ok (.iload_n 3, 1) := by decide +kernel
theorem kRW_moved_d23 : decode prog_14_method_25_code 23 = .ok (.if_icmp .gt 27, 3) := by decide +kernel
theorem kRW_moved_d26 : decode prog_14_method_25_code 26 = .ok (.aload_n 0, 1) := by decide +kernel
theorem kRW_moved_d27 : decode prog_14_method_25_code 27 = .ok (.getfield 7, 3) := by decide +kernel
theorem kRW_moved_d30 : decode prog_14_method_25_code 30 = .ok (.iload_n 2, 1) := by decide +kernel
theorem kRW_moved_d31 : decode prog_14_method_25_code 31 = .ok (.iload 4, 2) := by decide +kernel
theorem kRW_moved_d33 : decode prog_14_method_25_code 33 = .ok (.iadd, 1) := by decide +kernel
theorem kRW_moved_d34 : decode prog_14_method_25_code 34 = .ok (.aload_n 0, 1) := by decide +kernel
theorem kRW_moved_d35 : decode prog_14_method_25_code 35 = .ok (.getfield 7, 3) := by decide +kernel
theorem kRW_moved_d38 : decode prog_14_method_25_code 38 = .ok (.iload_n 1, 1) := by decide +kernel
theorem kRW_moved_d39 : decode prog_14_method_25_code 39 = .ok (.iload 4, 2) := by decide +kernel
theorem kRW_moved_d41 : decode prog_14_method_25_code 41 = .ok (.iadd, 1) := by decide +kernel
theorem kRW_moved_d42 : decode prog_14_method_25_code 42 = .ok (.iaload, 1) := by decide +kernel
theorem kRW_moved_d43 : decode prog_14_method_25_code 43 = .ok (.iastore, 1) := by decide +kernel
theorem kRW_moved_d44 : decode prog_14_method_25_code 44 = .ok (.iinc 4 1, 3) := by decide +kernel
theorem kRW_moved_d47 : decode prog_14_method_25_code 47 = .ok (.goto (-27), 3) := by decide +kernel
theorem kRW_moved_d50 : decode prog_14_method_25_code 50 = .ok (.aload_n 0, 1) := by decide +kernel
theorem kRW_moved_d51 : decode prog_14_method_25_code 51 = .ok (.iload_n 2, 1) := by decide +kernel
theorem kRW_moved_d52 : decode prog_14_method_25_code 52 = .ok (.iload_n 3, 1) := by decide +kernel
theorem kRW_moved_d53 : decode prog_14_method_25_code 53 = .ok (.iadd, 1) := by decide +kernel
theorem kRW_moved_d54 : decode prog_14_method_25_code 54 = .ok (.iconst 1, 1) := by decide +kernel
theorem kRW_moved_d55 : decode prog_14_method_25_code 55 = .ok (.iadd, 1) := by decide +kernel
theorem kRW_moved_d56 : decode prog_14_method_25_code 56 = .ok (.putfield 13, 3) := by decide +kernel
theorem kRW_moved_d59 : decode prog_14_method_25_code 59 = .ok (.iload_n 2, 1) := by decide +kernel
theorem kRW_moved_d60 : decode prog_14_method_25_code 60 = .ok (.ireturn, 1) := by decide +kernel
theorem kRW_isOne_d0 : decode prog_14_method_8_code 0 = .ok (.aload_n 0, 1) := by decide +kernel
theorem kRW_isOne_d1 : decode prog_14_method_8_code 1 = .ok (.getfield 7, 3) := by decide +kernel
theorem kRW_isOne_d4 : decode prog_14_method_8_code 4 = .ok (.iload_n 1, 1) := by decide +kernel
theorem kRW_isOne_d5 : decode prog_14_method_8_code 5 = .ok (.iaload, 1) := by decide +kernel
theorem kRW_isOne_d6 : decode prog_14_method_8_code 6 = .ok (.iconst 1, 1) := by decide +kernel
theorem kRW_isOne_d7 : decode prog_14_method_8_code 7 = .ok (.if_icmp .ne 19, 3) := by decide +kernel
theorem kRW_isOne_d10 : decode prog_14_method_8_code 10 = .ok (.aload_n 0, 1) := by decide +kernel
theorem kRW_isOne_d11 : decode prog_14_method_8_code 11 = .ok (.getfield 7, 3) := by decide +kernel
theorem kRW_isOne_d14 : decode prog_14_method_8_code 14 = .ok (.iload_n 1, 1) := by decide +kernel
theorem kRW_isOne_d15 : decode prog_14_method_8_code 15 = .ok (.iconst 1, 1) := by decide +kernel
theorem kRW_isOne_d16 : decode prog_14_method_8_code 16 = .ok (.iadd, 1) := by decide +kernel
theorem kRW_isOne_d17 : decode prog_14_method_8_code 17 = .ok (.iaload, 1) := by decide +kernel
theorem kRW_isOne_d18 : decode prog_14_method_8_code 18 = .ok (.iconst 1, 1) := by decide +kernel
theorem kRW_isOne_d19 : decode prog_14_method_8_code 19 = .ok (.if_icmp .ne 7, 3) := by decide +kernel
theorem kRW_isOne_d22 : decode prog_14_method_8_code 22 = .ok (.iconst 1, 1) := by decide +kernel
theorem kRW_isOne_d23 : decode prog_14_method_8_code 23 = .ok (.goto 4, 3) := by decide +kernel
theorem kRW_isOne_d26 : decode prog_14_method_8_code 26 = .ok (.iconst 0, 1) := by decide +kernel
theorem kRW_isOne_d27 : decode prog_14_method_8_code 27 = .ok (.ireturn, 1) := by decide +kernel
theorem kRW_multiple_d0 : decode prog_14_method_24_code 0 = .ok (.aload_n 0, 1) := by decide +kernel
theorem kRW_multiple_d1 : decode prog_14_method_24_code 1 = .ok (.getfield 13, 3) := by decide +kernel
theorem kRW_multiple_d4 : decode prog_14_method_24_code 4 = .ok (.istore 4, 2) := by decide +kernel
theorem kRW_multiple_d6 : decode prog_14_method_24_code 6 = .ok (.aload_n 0, 1) := by decide +kernel
theorem kRW_multiple_d7 : decode prog_14_method_24_code 7 = .ok (.iload_n 1, 1) := by decide +kernel
theorem kRW_multiple_d8 : decode prog_14_method_24_code 8 = .ok (.iload_n 2, 1) := by decide +kernel
theorem kRW_multiple_d9 : decode prog_14_method_24_code 9 = .ok (.invokevirtual 96, 3) := by decide +kernel
theorem kRW_multiple_d12 : decode prog_14_method_24_code 12 = .ok (.pop, 1) := by decide +kernel
theorem kRW_multiple_d13 : decode prog_14_method_24_code 13 = .ok (.aload_n 0, 1) := by decide +kernel
theorem kRW_multiple_d14 : decode prog_14_method_24_code 14 = .ok (.getfield 90, 3) := by decide +kernel
theorem kRW_multiple_d17 : decode prog_14_method_24_code 17 = .ok (.ifCond .ne 7, 3) := by decide +kernel
theorem kRW_multiple_d20 : decode prog_14_method_24_code 20 = .ok (.iconst 1, 1) := by decide +kernel
theorem kRW_multiple_d21 : decode prog_14_method_24_code 21 = .ok (.goto 4, 3) := by decide +kernel
theorem kRW_multiple_d24 : decode prog_14_method_24_code 24 = .ok (.iconst 0, 1) := by decide +kernel
theorem kRW_multiple_d25 : decode prog_14_method_24_code 25 = .ok (.istore 5, 2) := by decide +kernel
theorem kRW_multiple_d27 : decode prog_14_method_24_code 27 = .ok (.aload_n 0, 1) := by decide +kernel
theorem kRW_multiple_d28 : decode prog_14_method_24_code 28 = .ok (.iload 4, 2) := by decide +kernel
theorem kRW_multiple_d30 : decode prog_14_method_24_code 30 = .ok (.putfield 13, 3) := by decide +kernel
theorem kRW_multiple_d33 : decode prog_14_method_24_code 33 = .ok (.iload 5, 2) := by decide +kernel
theorem kRW_multiple_d35 : decode prog_14_method_24_code 35 = .ok (.ifCond .eq 5, 3) := by decide +kernel
theorem kRW_multiple_d38 : decode prog_14_method_24_code 38 = .ok (.iload_n 1, 1) := by decide +kernel
theorem kRW_multiple_d39 : decode prog_14_method_24_code 39 = .ok (.ireturn, 1) := by decide +kernel
theorem kRW_multiple_d40 : decode prog_14_method_24_code 40 = .ok (.aload_n 0, 1) := by decide +kernel
theorem kRW_multiple_d41 : decode prog_14_method_24_code 41 = .ok (.iload_n 1, 1) := by decide +kernel
theorem kRW_multiple_d42 : decode prog_14_method_24_code 42 = .ok (.iload_n 2, 1) := by decide +kernel
theorem kRW_multiple_d43 : decode prog_14_method_24_code 43 = .ok (.invokevirtual 102, 3) := by decide +kernel
theorem kRW_multiple_d46 : decode prog_14_method_24_code 46 = .ok (.istore 6, 2) := by decide +kernel
theorem kRW_multiple_d48 : decode prog_14_method_24_code 48 = .ok (.aload_n 0, 1) := by decide +kernel
theorem kRW_multiple_d49 : decode prog_14_method_24_code 49 = .ok (.aload_n 0, 1) := by decide +kernel
theorem kRW_multiple_d50 : decode prog_14_method_24_code 50 = .ok (.iload_n 1, 1) := by decide +kernel
theorem kRW_multiple_d51 : decode prog_14_method_24_code 51 = .ok (.iload 6, 2) := by decide +kernel
theorem kRW_multiple_d53 : decode prog_14_method_24_code 53 = .ok (.invokevirtual 96, 3) := by decide +kernel
theorem kRW_multiple_d56 : decode prog_14_method_24_code 56 = .ok (.iload_n 2, 1) := by decide +kernel
theorem kRW_multiple_d57 : decode prog_14_method_24_code 57 = .ok (.invokevirtual 105, 3) := by decide +kernel
theorem kRW_multiple_d60 : decode prog_14_method_24_code 60 = .ok (.istore 7, 2) := by decide +kernel
theorem kRW_multiple_d62 : decode prog_14_method_24_code 62 = .ok (.aload_n 0, 1) := by decide +kernel
theorem kRW_multiple_d63 : decode prog_14_method_24_code 63 = .ok (.aload_n 0, 1) := by decide +kernel
theorem kRW_multiple_d64 : decode prog_14_method_24_code 64 = .ok (.iload 7, 2) := by decide +kernel
theorem kRW_multiple_d66 : decode prog_14_method_24_code 66 = .ok (.invokevirtual 37, 3) := by decide +kernel
theorem kRW_multiple_d69 : decode prog_14_method_24_code 69 = .ok (.iload_n 3, 1) := by decide +kernel
theorem kRW_multiple_d70 : decode prog_14_method_24_code 70 = .ok (.invokevirtual 99, 3) := by decide +kernel
theorem kRW_multiple_d73 : decode prog_14_method_24_code 73 = .ok (.ireturn, 1) := by decide +kernel
theorem kRW_length_d0 : decode prog_14_method_26_code 0 = .ok (.aload_n 0, 1) := by decide +kernel
theorem kRW_length_d1 : decode prog_14_method_26_code 1 = .ok (.iload_n 1, 1) := by decide +kernel
theorem kRW_length_d2 : decode prog_14_method_26_code 2 = .ok (.invokevirtual 23, 3) := by decide +kernel
theorem kRW_length_d5 : decode prog_14_method_26_code 5 = .ok (.istore_n 2, 1) := by decide +kernel
theorem kRW_length_d6 : decode prog_14_method_26_code 6 = .ok (.iload_n 2, 1) := by decide +kernel
theorem kRW_length_d7 : decode prog_14_method_26_code 7 = .ok (.ifCond .ne 5, 3) := by decide +kernel
theorem kRW_length_d10 : decode prog_14_method_26_code 10 = .ok (.iconst 0, 1) := by decide +kernel
theorem kRW_length_d11 : decode prog_14_method_26_code 11 = .ok (.ireturn, 1) := by decide +kernel
theorem kRW_length_d12 : decode prog_14_method_26_code 12 = .ok (.iconst 0, 1) := by decide +kernel
theorem kRW_length_d13 : decode prog_14_method_26_code 13 = .ok (.istore_n 3, 1) := by decide +kernel
theorem kRW_length_d14 : decode prog_14_method_26_code 14 = .ok (.aload_n 0, 1) := by decide +kernel
theorem kRW_length_d15 : decode prog_14_method_26_code 15 = .ok (.getfield 7, 3) := by decide +kernel
theorem kRW_length_d18 : decode prog_14_method_26_code 18 = .ok (.iload_n 1, 1) := by decide +kernel
theorem kRW_length_d19 : decode prog_14_method_26_code 19 = .ok (.iload_n 2, 1) := by decide +kernel
theorem kRW_length_d20 : decode prog_14_method_26_code 20 = .ok (.iadd, 1) := by decide +kernel
theorem kRW_length_d21 : decode prog_14_method_26_code 21 = .ok (.iaload, 1) := by decide +kernel
theorem kRW_length_d22 : decode prog_14_method_26_code 22 = .ok (.iload_n 3, 1) := by decide +kernel
theorem kRW_length_d23 : decode prog_14_method_26_code 23 = .ok (.ishr, 1) := by decide +kernel
theorem kRW_length_d24 : decode prog_14_method_26_code 24 = .ok (.ifCond .le 9, 3) := by decide +kernel
theorem kRW_length_d27 : decode prog_14_method_26_code 27 = .ok (.iinc 3 1, 3) := by decide +kernel
theorem kRW_length_d30 : decode prog_14_method_26_code 30 = .ok (.goto (-16), 3) := by decide +kernel
theorem kRW_length_d33 : decode prog_14_method_26_code 33 = .ok (.bipush 15, 2) := by decide +kernel
theorem kRW_length_d35 : decode prog_14_method_26_code 35 = .ok (.iload_n 2, 1) := by decide +kernel
theorem kRW_length_d36 : decode prog_14_method_26_code 36 = .ok (.iconst 1, 1) := by decide +kernel
theorem kRW_length_d37 : decode prog_14_method_26_code 37 = .ok (.isub, 1) := by decide +kernel
theorem kRW_length_d38 : decode prog_14_method_26_code 38 = .ok (.imul, 1) := by decide +kernel
theorem kRW_length_d39 : decode prog_14_method_26_code 39 = .ok (.iload_n 3, 1) := by decide +kernel
theorem kRW_length_d40 : decode prog_14_method_26_code 40 = .ok (.iadd, 1) := by decide +kernel
theorem kRW_length_d41 : decode prog_14_method_26_code 41 = .ok (.ireturn, 1) := by decide +kernel
theorem kRW_add_d0 : decode prog_14_method_17_code 0 = .ok (.aload_n 0, 1) := by decide +kernel
theorem kRW_add_d1 : decode prog_14_method_17_code 1 = .ok (.iload_n 1, 1) := by decide +kernel
theorem kRW_add_d2 : decode prog_14_method_17_code 2 = .ok (.iload_n 2, 1) := by decide +kernel
theorem kRW_add_d3 : decode prog_14_method_17_code 3 = .ok (.iconst 0, 1) := by decide +kernel
theorem kRW_add_d4 : decode prog_14_method_17_code 4 = .ok (.invokevirtual 66, 3) := by decide +kernel
theorem kRW_add_d7 : decode prog_14_method_17_code 7 = .ok (.ireturn, 1) := by decide +kernel
theorem kRW_order_d0 : decode prog_14_method_13_code 0 = .ok (.aload_n 0, 1) := by decide +kernel
theorem kRW_order_d1 : decode prog_14_method_13_code 1 = .ok (.iload_n 1, 1) := by decide +kernel
theorem kRW_order_d2 : decode prog_14_method_13_code 2 = .ok (.invokevirtual 43, 3) := by decide +kernel
theorem kRW_order_d5 : decode prog_14_method_13_code 5 = .ok (.istore_n 3, 1) := by decide +kernel
theorem kRW_order_d6 : decode prog_14_method_13_code 6 = .ok (.aload_n 0, 1) := by decide +kernel
theorem kRW_order_d7 : decode prog_14_method_13_code 7 = .ok (.iload_n 2, 1) := by decide +kernel
theorem kRW_order_d8 : decode prog_14_method_13_code 8 = .ok (.invokevirtual 43, 3) := by decide +kernel
theorem kRW_order_d11 : decode prog_14_method_13_code 11 = .ok (.istore 4, 2) := by decide +kernel
theorem kRW_order_d13 : decode prog_14_method_13_code 13 = .ok (.iload_n 3, 1) := by decide +kernel
theorem kRW_order_d14 : decode prog_14_method_13_code 14 = .ok (.iload 4, 2) := by decide +kernel
theorem kRW_order_d16 : decode prog_14_method_13_code 16 = .ok (.if_icmp .eq 15, 3) := by decide +kernel
theorem kRW_order_d19 : decode prog_14_method_13_code 19 = .ok (.iload_n 3, 1) := by decide +kernel
theorem kRW_order_d20 : decode prog_14_method_13_code 20 = .ok (.iload 4, 2) := by decide +kernel
theorem kRW_order_d22 : decode prog_14_method_13_code 22 = .ok (.if_icmp .ge 7, 3) := by decide +kernel
theorem kRW_order_d25 : decode prog_14_method_13_code 25 = .ok (.iconst (-1), 1) := by decide +kernel
theorem kRW_order_d26 : decode prog_14_method_13_code 26 = .ok (.goto 4, 3) := by decide +kernel
theorem kRW_order_d29 : decode prog_14_method_13_code 29 = .ok (.iconst 1, 1) := by decide +kernel
theorem kRW_order_d30 : decode prog_14_method_13_code 30 = .ok (.ireturn, 1) := by decide +kernel
theorem kRW_order_d31 : decode prog_14_method_13_code 31 = .ok (.iload_n 3, 1) := by decide +kernel
theorem kRW_order_d32 : decode prog_14_method_13_code 32 = .ok (.ifCond .ge 12, 3) := by decide +kernel
theorem kRW_order_d35 : decode prog_14_method_13_code 35 = .ok (.aload_n 0, 1) := by decide +kernel
theorem kRW_order_d36 : decode prog_14_method_13_code 36 = .ok (.iload_n 2, 1) := by decide +kernel
theorem kRW_order_d37 : decode prog_14_method_13_code 37 = .ok (.iload_n 1, 1) := by decide +kernel
theorem kRW_order_d38 : decode prog_14_method_13_code 38 = .ok (.invokevirtual 46, 3) := by decide +kernel
theorem kRW_order_d41 : decode prog_14_method_13_code 41 = .ok (.goto 9, 3) := by decide +kernel
theorem kRW_order_d44 : decode prog_14_method_13_code 44 = .ok (.aload_n 0, 1) := by decide +kernel
theorem kRW_order_d45 : decode prog_14_method_13_code 45 = .ok (.iload_n 1, 1) := by decide +kernel
theorem kRW_order_d46 : decode prog_14_method_13_code 46 = .ok (.iload_n 2, 1) := by decide +kernel
theorem kRW_order_d47 : decode prog_14_method_13_code 47 = .ok (.invokevirtual 46, 3) := by decide +kernel
theorem kRW_order_d50 : decode prog_14_method_13_code 50 = .ok (.ireturn, 1) := by decide +kernel
