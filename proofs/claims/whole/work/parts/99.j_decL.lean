/-! decode rows of the law -/
theorem kL_make_d0 : decode method_3_code 0 = .ok (.aload_n 0, 1) := by decide +kernel
theorem kL_make_d1 : decode method_3_code 1 = .ok (.iload_n 1, 1) := by decide +kernel
theorem kL_make_d2 : decode method_3_code 2 = .ok (.iload_n 2, 1) := by decide +kernel
theorem kL_make_d3 : decode method_3_code 3 = .ok (.iload_n 3, 1) := by decide +kernel
theorem kL_make_d4 : decode method_3_code 4 = .ok (.invokevirtual 7, 3) := by decide +kernel
theorem kL_make_d7 : decode method_3_code 7 = .ok (.goto 11, 3) := by decide +kernel
theorem kL_make_d10 : decode method_3_code 10 = .ok (.astore 4, 2) := by decide +kernel
theorem kL_make_d12 : decode method_3_code 12 = .ok (.iconst 1, 1) := by decide +kernel
theorem kL_make_d13 : decode method_3_code 13 = .ok (.ireturn, 1) := by decide +kernel
theorem kL_make_d14 : decode method_3_code 14 = .ok (.astore 4, 2) := by decide +kernel
theorem kL_make_d16 : decode method_3_code 16 = .ok (.iconst 2, 1) := by decide +kernel
theorem kL_make_d17 : decode method_3_code 17 = .ok (.ireturn, 1) := by decide +kernel
theorem kL_make_d18 : decode method_3_code 18 = .ok (.iconst 0, 1) := by decide +kernel
theorem kL_make_d19 : decode method_3_code 19 = .ok (.ireturn, 1) := by decide +kernel
theorem kL_set_d0 : decode method_4_code 0 = .ok (.aload_n 0, 1) := by decide +kernel
theorem kL_set_d1 : decode method_4_code 1 = .ok (.iload_n 1, 1) := by decide +kernel
theorem kL_set_d2 : decode method_4_code 2 = .ok (.iload_n 2, 1) := by decide +kernel
theorem kL_set_d3 : decode method_4_code 3 = .ok (.iload_n 3, 1) := by decide +kernel
theorem kL_set_d4 : decode method_4_code 4 = .ok (.lload 4, 2) := by decide +kernel
theorem kL_set_d6 : decode method_4_code 6 = .ok (.lload 6, 2) := by decide +kernel
theorem kL_set_d8 : decode method_4_code 8 = .ok (.invokevirtual 17, 3) := by decide +kernel
theorem kL_set_d11 : decode method_4_code 11 = .ok (.goto 15, 3) := by decide +kernel
theorem kL_set_d14 : decode method_4_code 14 = .ok (.astore 8, 2) := by decide +kernel
theorem kL_set_d16 : decode method_4_code 16 = .ok (.iconst 1, 1) := by decide +kernel
theorem kL_set_d17 : decode method_4_code 17 = .ok (.ireturn, 1) := by decide +kernel
theorem kL_set_d18 : decode method_4_code 18 = .ok (.astore 8, 2) := by decide +kernel
theorem kL_set_d20 : decode method_4_code 20 = .ok (.iconst 2, 1) := by decide +kernel
theorem kL_set_d21 : decode method_4_code 21 = .ok (.ireturn, 1) := by decide +kernel
theorem kL_set_d22 : decode method_4_code 22 = .ok (.astore 8, 2) := by decide +kernel
theorem kL_set_d24 : decode method_4_code 24 = .ok (.iconst 3, 1) := by decide +kernel
theorem kL_set_d25 : decode method_4_code 25 = .ok (.ireturn, 1) := by decide +kernel
theorem kL_set_d26 : decode method_4_code 26 = .ok (.iconst 0, 1) := by decide +kernel
theorem kL_set_d27 : decode method_4_code 27 = .ok (.ireturn, 1) := by decide +kernel
theorem kL_unit_d0 : decode method_5_code 0 = .ok (.aload_n 0, 1) := by decide +kernel
theorem kL_unit_d1 : decode method_5_code 1 = .ok (.iload_n 1, 1) := by decide +kernel
theorem kL_unit_d2 : decode method_5_code 2 = .ok (.iload_n 2, 1) := by decide +kernel
theorem kL_unit_d3 : decode method_5_code 3 = .ok (.invokevirtual 23, 3) := by decide +kernel
theorem kL_unit_d6 : decode method_5_code 6 = .ok (.goto 9, 3) := by decide +kernel
theorem kL_unit_d9 : decode method_5_code 9 = .ok (.astore_n 3, 1) := by decide +kernel
theorem kL_unit_d10 : decode method_5_code 10 = .ok (.iconst 1, 1) := by decide +kernel
theorem kL_unit_d11 : decode method_5_code 11 = .ok (.ireturn, 1) := by decide +kernel
theorem kL_unit_d12 : decode method_5_code 12 = .ok (.astore_n 3, 1) := by decide +kernel
theorem kL_unit_d13 : decode method_5_code 13 = .ok (.iconst 2, 1) := by decide +kernel
theorem kL_unit_d14 : decode method_5_code 14 = .ok (.ireturn, 1) := by decide +kernel
theorem kL_unit_d15 : decode method_5_code 15 = .ok (.iconst 0, 1) := by decide +kernel
theorem kL_unit_d16 : decode method_5_code 16 = .ok (.ireturn, 1) := by decide +kernel
theorem kL_add_d0 : decode method_6_code 0 = .ok (.aload_n 0, 1) := by decide +kernel
theorem kL_add_d1 : decode method_6_code 1 = .ok (.iload_n 1, 1) := by decide +kernel
theorem kL_add_d2 : decode method_6_code 2 = .ok (.iload_n 2, 1) := by decide +kernel
theorem kL_add_d3 : decode method_6_code 3 = .ok (.iload_n 3, 1) := by decide +kernel
theorem kL_add_d4 : decode method_6_code 4 = .ok (.iload 4, 2) := by decide +kernel
theorem kL_add_d6 : decode method_6_code 6 = .ok (.invokevirtual 27, 3) := by decide +kernel
theorem kL_add_d9 : decode method_6_code 9 = .ok (.goto 15, 3) := by decide +kernel
theorem kL_add_d12 : decode method_6_code 12 = .ok (.astore 5, 2) := by decide +kernel
theorem kL_add_d14 : decode method_6_code 14 = .ok (.iconst 1, 1) := by decide +kernel
theorem kL_add_d15 : decode method_6_code 15 = .ok (.ireturn, 1) := by decide +kernel
theorem kL_add_d16 : decode method_6_code 16 = .ok (.astore 5, 2) := by decide +kernel
theorem kL_add_d18 : decode method_6_code 18 = .ok (.iconst 2, 1) := by decide +kernel
theorem kL_add_d19 : decode method_6_code 19 = .ok (.ireturn, 1) := by decide +kernel
theorem kL_add_d20 : decode method_6_code 20 = .ok (.astore 5, 2) := by decide +kernel
theorem kL_add_d22 : decode method_6_code 22 = .ok (.iconst 3, 1) := by decide +kernel
theorem kL_add_d23 : decode method_6_code 23 = .ok (.ireturn, 1) := by decide +kernel
theorem kL_add_d24 : decode method_6_code 24 = .ok (.iconst 0, 1) := by decide +kernel
theorem kL_add_d25 : decode method_6_code 25 = .ok (.ireturn, 1) := by decide +kernel
theorem kL_multiply_d0 : decode method_7_code 0 = .ok (.aload_n 0, 1) := by decide +kernel
theorem kL_multiply_d1 : decode method_7_code 1 = .ok (.iload_n 1, 1) := by decide +kernel
theorem kL_multiply_d2 : decode method_7_code 2 = .ok (.iload_n 2, 1) := by decide +kernel
theorem kL_multiply_d3 : decode method_7_code 3 = .ok (.iload_n 3, 1) := by decide +kernel
theorem kL_multiply_d4 : decode method_7_code 4 = .ok (.invokevirtual 31, 3) := by decide +kernel
theorem kL_multiply_d7 : decode method_7_code 7 = .ok (.goto 15, 3) := by decide +kernel
theorem kL_multiply_d10 : decode method_7_code 10 = .ok (.astore 4, 2) := by decide +kernel
theorem kL_multiply_d12 : decode method_7_code 12 = .ok (.iconst 1, 1) := by decide +kernel
theorem kL_multiply_d13 : decode method_7_code 13 = .ok (.ireturn, 1) := by decide +kernel
theorem kL_multiply_d14 : decode method_7_code 14 = .ok (.astore 4, 2) := by decide +kernel
theorem kL_multiply_d16 : decode method_7_code 16 = .ok (.iconst 2, 1) := by decide +kernel
theorem kL_multiply_d17 : decode method_7_code 17 = .ok (.ireturn, 1) := by decide +kernel
theorem kL_multiply_d18 : decode method_7_code 18 = .ok (.astore 4, 2) := by decide +kernel
theorem kL_multiply_d20 : decode method_7_code 20 = .ok (.iconst 3, 1) := by decide +kernel
theorem kL_multiply_d21 : decode method_7_code 21 = .ok (.ireturn, 1) := by decide +kernel
theorem kL_multiply_d22 : decode method_7_code 22 = .ok (.iconst 0, 1) := by decide +kernel
theorem kL_multiply_d23 : decode method_7_code 23 = .ok (.ireturn, 1) := by decide +kernel
theorem kL_turn_d0 : decode method_8_code 0 = .ok (.aload_n 0, 1) := by decide +kernel
theorem kL_turn_d1 : decode method_8_code 1 = .ok (.iload_n 1, 1) := by decide +kernel
theorem kL_turn_d2 : decode method_8_code 2 = .ok (.iload_n 2, 1) := by decide +kernel
theorem kL_turn_d3 : decode method_8_code 3 = .ok (.invokevirtual 34, 3) := by decide +kernel
theorem kL_turn_d6 : decode method_8_code 6 = .ok (.goto 6, 3) := by decide +kernel
theorem kL_turn_d9 : decode method_8_code 9 = .ok (.astore_n 3, 1) := by decide +kernel
theorem kL_turn_d10 : decode method_8_code 10 = .ok (.iconst 1, 1) := by decide +kernel
theorem kL_turn_d11 : decode method_8_code 11 = .ok (.ireturn, 1) := by decide +kernel
theorem kL_turn_d12 : decode method_8_code 12 = .ok (.iconst 0, 1) := by decide +kernel
theorem kL_turn_d13 : decode method_8_code 13 = .ok (.ireturn, 1) := by decide +kernel
theorem kL_beside_d0 : decode method_9_code 0 = .ok (.aload_n 0, 1) := by decide +kernel
theorem kL_beside_d1 : decode method_9_code 1 = .ok (.iload_n 1, 1) := by decide +kernel
theorem kL_beside_d2 : decode method_9_code 2 = .ok (.iload_n 2, 1) := by decide +kernel
theorem kL_beside_d3 : decode method_9_code 3 = .ok (.iload_n 3, 1) := by decide +kernel
theorem kL_beside_d4 : decode method_9_code 4 = .ok (.invokevirtual 37, 3) := by decide +kernel
theorem kL_beside_d7 : decode method_9_code 7 = .ok (.goto 15, 3) := by decide +kernel
theorem kL_beside_d10 : decode method_9_code 10 = .ok (.astore 4, 2) := by decide +kernel
theorem kL_beside_d12 : decode method_9_code 12 = .ok (.iconst 1, 1) := by decide +kernel
theorem kL_beside_d13 : decode method_9_code 13 = .ok (.ireturn, 1) := by decide +kernel
theorem kL_beside_d14 : decode method_9_code 14 = .ok (.astore 4, 2) := by decide +kernel
theorem kL_beside_d16 : decode method_9_code 16 = .ok (.iconst 2, 1) := by decide +kernel
theorem kL_beside_d17 : decode method_9_code 17 = .ok (.ireturn, 1) := by decide +kernel
theorem kL_beside_d18 : decode method_9_code 18 = .ok (.astore 4, 2) := by decide +kernel
theorem kL_beside_d20 : decode method_9_code 20 = .ok (.iconst 3, 1) := by decide +kernel
theorem kL_beside_d21 : decode method_9_code 21 = .ok (.ireturn, 1) := by decide +kernel
theorem kL_beside_d22 : decode method_9_code 22 = .ok (.iconst 0, 1) := by decide +kernel
theorem kL_beside_d23 : decode method_9_code 23 = .ok (.ireturn, 1) := by decide +kernel
theorem kL_part_d0 : decode method_10_code 0 = .ok (.aload_n 0, 1) := by decide +kernel
theorem kL_part_d1 : decode method_10_code 1 = .ok (.iload_n 1, 1) := by decide +kernel
theorem kL_part_d2 : decode method_10_code 2 = .ok (.iload_n 2, 1) := by decide +kernel
theorem kL_part_d3 : decode method_10_code 3 = .ok (.iload_n 3, 1) := by decide +kernel
theorem kL_part_d4 : decode method_10_code 4 = .ok (.iload 4, 2) := by decide +kernel
theorem kL_part_d6 : decode method_10_code 6 = .ok (.iload 5, 2) := by decide +kernel
theorem kL_part_d8 : decode method_10_code 8 = .ok (.iload 6, 2) := by decide +kernel
theorem kL_part_d10 : decode method_10_code 10 = .ok (.invokevirtual 40, 3) := by decide +kernel
theorem kL_part_d13 : decode method_10_code 13 = .ok (.goto 11, 3) := by decide +kernel
theorem kL_part_d16 : decode method_10_code 16 = .ok (.astore 7, 2) := by decide +kernel
theorem kL_part_d18 : decode method_10_code 18 = .ok (.iconst 1, 1) := by decide +kernel
theorem kL_part_d19 : decode method_10_code 19 = .ok (.ireturn, 1) := by decide +kernel
theorem kL_part_d20 : decode method_10_code 20 = .ok (.astore 7, 2) := by decide +kernel
theorem kL_part_d22 : decode method_10_code 22 = .ok (.iconst 2, 1) := by decide +kernel
theorem kL_part_d23 : decode method_10_code 23 = .ok (.ireturn, 1) := by decide +kernel
theorem kL_part_d24 : decode method_10_code 24 = .ok (.iconst 0, 1) := by decide +kernel
theorem kL_part_d25 : decode method_10_code 25 = .ok (.ireturn, 1) := by decide +kernel
theorem kL_echelon_d0 : decode method_11_code 0 = .ok (.aload_n 3, 1) := by decide +kernel
theorem kL_echelon_d1 : decode method_11_code 1 = .ok (.iconst 0, 1) := by decide +kernel
theorem kL_echelon_d2 : decode method_11_code 2 = .ok (.aload_n 0, 1) := by decide +kernel
theorem kL_echelon_d3 : decode method_11_code 3 = .ok (.iload_n 1, 1) := by decide +kernel
theorem kL_echelon_d4 : decode method_11_code 4 = .ok (.iload_n 2, 1) := by decide +kernel
theorem kL_echelon_d5 : decode method_11_code 5 = .ok (.invokevirtual 44, 3) := by decide +kernel
theorem kL_echelon_d8 : decode method_11_code 8 = .ok (.i2l, 1) := by decide +kernel
theorem kL_echelon_d9 : decode method_11_code 9 = .ok (.lastore, 1) := by decide +kernel
theorem kL_echelon_d10 : decode method_11_code 10 = .ok (.goto 11, 3) := by decide +kernel
theorem kL_echelon_d13 : decode method_11_code 13 = .ok (.astore 4, 2) := by decide +kernel
theorem kL_echelon_d15 : decode method_11_code 15 = .ok (.iconst 1, 1) := by decide +kernel
theorem kL_echelon_d16 : decode method_11_code 16 = .ok (.ireturn, 1) := by decide +kernel
theorem kL_echelon_d17 : decode method_11_code 17 = .ok (.astore 4, 2) := by decide +kernel
theorem kL_echelon_d19 : decode method_11_code 19 = .ok (.iconst 2, 1) := by decide +kernel
theorem kL_echelon_d20 : decode method_11_code 20 = .ok (.ireturn, 1) := by decide +kernel
theorem kL_echelon_d21 : decode method_11_code 21 = .ok (.iconst 0, 1) := by decide +kernel
theorem kL_echelon_d22 : decode method_11_code 22 = .ok (.ireturn, 1) := by decide +kernel
theorem kL_kernel_d0 : decode method_12_code 0 = .ok (.aload_n 3, 1) := by decide +kernel
theorem kL_kernel_d1 : decode method_12_code 1 = .ok (.iconst 0, 1) := by decide +kernel
theorem kL_kernel_d2 : decode method_12_code 2 = .ok (.aload_n 0, 1) := by decide +kernel
theorem kL_kernel_d3 : decode method_12_code 3 = .ok (.iload_n 1, 1) := by decide +kernel
theorem kL_kernel_d4 : decode method_12_code 4 = .ok (.iload_n 2, 1) := by decide +kernel
theorem kL_kernel_d5 : decode method_12_code 5 = .ok (.invokevirtual 48, 3) := by decide +kernel
theorem kL_kernel_d8 : decode method_12_code 8 = .ok (.i2l, 1) := by decide +kernel
theorem kL_kernel_d9 : decode method_12_code 9 = .ok (.lastore, 1) := by decide +kernel
theorem kL_kernel_d10 : decode method_12_code 10 = .ok (.goto 11, 3) := by decide +kernel
theorem kL_kernel_d13 : decode method_12_code 13 = .ok (.astore 4, 2) := by decide +kernel
theorem kL_kernel_d15 : decode method_12_code 15 = .ok (.iconst 1, 1) := by decide +kernel
theorem kL_kernel_d16 : decode method_12_code 16 = .ok (.ireturn, 1) := by decide +kernel
theorem kL_kernel_d17 : decode method_12_code 17 = .ok (.astore 4, 2) := by decide +kernel
theorem kL_kernel_d19 : decode method_12_code 19 = .ok (.iconst 2, 1) := by decide +kernel
theorem kL_kernel_d20 : decode method_12_code 20 = .ok (.ireturn, 1) := by decide +kernel
theorem kL_kernel_d21 : decode method_12_code 21 = .ok (.iconst 0, 1) := by decide +kernel
theorem kL_kernel_d22 : decode method_12_code 22 = .ok (.ireturn, 1) := by decide +kernel
theorem kL_solve_d0 : decode method_13_code 0 = .ok (.aload 4, 2) := by decide +kernel
theorem kL_solve_d2 : decode method_13_code 2 = .ok (.iconst 0, 1) := by decide +kernel
theorem kL_solve_d3 : decode method_13_code 3 = .ok (.aload_n 0, 1) := by decide +kernel
theorem kL_solve_d4 : decode method_13_code 4 = .ok (.iload_n 1, 1) := by decide +kernel
theorem kL_solve_d5 : decode method_13_code 5 = .ok (.iload_n 2, 1) := by decide +kernel
theorem kL_solve_d6 : decode method_13_code 6 = .ok (.iload_n 3, 1) := by decide +kernel
theorem kL_solve_d7 : decode method_13_code 7 = .ok (.invokevirtual 51, 3) := by decide +kernel
theorem kL_solve_d10 : decode method_13_code 10 = .ok (.ifCond .eq 7, 3) := by decide +kernel
theorem kL_solve_d13 : decode method_13_code 13 = .ok (.lconst 1, 1) := by decide +kernel
theorem kL_solve_d14 : decode method_13_code 14 = .ok (.goto 4, 3) := by decide +kernel
theorem kL_solve_d17 : decode method_13_code 17 = .ok (.lconst 0, 1) := by decide +kernel
theorem kL_solve_d18 : decode method_13_code 18 = .ok (.lastore, 1) := by decide +kernel
theorem kL_solve_d19 : decode method_13_code 19 = .ok (.goto 15, 3) := by decide +kernel
theorem kL_solve_d22 : decode method_13_code 22 = .ok (.astore 5, 2) := by decide +kernel
theorem kL_solve_d24 : decode method_13_code 24 = .ok (.iconst 1, 1) := by decide +kernel
theorem kL_solve_d25 : decode method_13_code 25 = .ok (.ireturn, 1) := by decide +kernel
theorem kL_solve_d26 : decode method_13_code 26 = .ok (.astore 5, 2) := by decide +kernel
theorem kL_solve_d28 : decode method_13_code 28 = .ok (.iconst 2, 1) := by decide +kernel
theorem kL_solve_d29 : decode method_13_code 29 = .ok (.ireturn, 1) := by decide +kernel
theorem kL_solve_d30 : decode method_13_code 30 = .ok (.astore 5, 2) := by decide +kernel
theorem kL_solve_d32 : decode method_13_code 32 = .ok (.iconst 3, 1) := by decide +kernel
theorem kL_solve_d33 : decode method_13_code 33 = .ok (.ireturn, 1) := by decide +kernel
theorem kL_solve_d34 : decode method_13_code 34 = .ok (.iconst 0, 1) := by decide +kernel
theorem kL_solve_d35 : decode method_13_code 35 = .ok (.ireturn, 1) := by decide +kernel
theorem kL_invert_d0 : decode method_14_code 0 = .ok (.aload_n 3, 1) := by decide +kernel
theorem kL_invert_d1 : decode method_14_code 1 = .ok (.iconst 0, 1) := by decide +kernel
theorem kL_invert_d2 : decode method_14_code 2 = .ok (.aload_n 0, 1) := by decide +kernel
theorem kL_invert_d3 : decode method_14_code 3 = .ok (.iload_n 1, 1) := by decide +kernel
theorem kL_invert_d4 : decode method_14_code 4 = .ok (.iload_n 2, 1) := by decide +kernel
theorem kL_invert_d5 : decode method_14_code 5 = .ok (.invokevirtual 55, 3) := by decide +kernel
theorem kL_invert_d8 : decode method_14_code 8 = .ok (.ifCond .eq 7, 3) := by decide +kernel
theorem kL_invert_d11 : decode method_14_code 11 = .ok (.lconst 1, 1) := by decide +kernel
theorem kL_invert_d12 : decode method_14_code 12 = .ok (.goto 4, 3) := by decide +kernel
theorem kL_invert_d15 : decode method_14_code 15 = .ok (.lconst 0, 1) := by decide +kernel
theorem kL_invert_d16 : decode method_14_code 16 = .ok (.lastore, 1) := by decide +kernel
theorem kL_invert_d17 : decode method_14_code 17 = .ok (.goto 15, 3) := by decide +kernel
theorem kL_invert_d20 : decode method_14_code 20 = .ok (.astore 4, 2) := by decide +kernel
theorem kL_invert_d22 : decode method_14_code 22 = .ok (.iconst 1, 1) := by decide +kernel
theorem kL_invert_d23 : decode method_14_code 23 = .ok (.ireturn, 1) := by decide +kernel
theorem kL_invert_d24 : decode method_14_code 24 = .ok (.astore 4, 2) := by decide +kernel
theorem kL_invert_d26 : decode method_14_code 26 = .ok (.iconst 2, 1) := by decide +kernel
theorem kL_invert_d27 : decode method_14_code 27 = .ok (.ireturn, 1) := by decide +kernel
theorem kL_invert_d28 : decode method_14_code 28 = .ok (.astore 4, 2) := by decide +kernel
theorem kL_invert_d30 : decode method_14_code 30 = .ok (.iconst 3, 1) := by decide +kernel
theorem kL_invert_d31 : decode method_14_code 31 = .ok (.ireturn, 1) := by decide +kernel
theorem kL_invert_d32 : decode method_14_code 32 = .ok (.iconst 0, 1) := by decide +kernel
theorem kL_invert_d33 : decode method_14_code 33 = .ok (.ireturn, 1) := by decide +kernel
theorem kL_determinant_d0 : decode method_15_code 0 = .ok (.aload_n 0, 1) := by decide +kernel
theorem kL_determinant_d1 : decode method_15_code 1 = .ok (.iload_n 1, 1) := by decide +kernel
theorem kL_determinant_d2 : decode method_15_code 2 = .ok (.iload_n 2, 1) := by decide +kernel
theorem kL_determinant_d3 : decode method_15_code 3 = .ok (.invokevirtual 59, 3) := by decide +kernel
theorem kL_determinant_d6 : decode method_15_code 6 = .ok (.goto 12, 3) := by decide +kernel
theorem kL_determinant_d9 : decode method_15_code 9 = .ok (.astore_n 3, 1) := by decide +kernel
theorem kL_determinant_d10 : decode method_15_code 10 = .ok (.iconst 1, 1) := by decide +kernel
theorem kL_determinant_d11 : decode method_15_code 11 = .ok (.ireturn, 1) := by decide +kernel
theorem kL_determinant_d12 : decode method_15_code 12 = .ok (.astore_n 3, 1) := by decide +kernel
theorem kL_determinant_d13 : decode method_15_code 13 = .ok (.iconst 2, 1) := by decide +kernel
theorem kL_determinant_d14 : decode method_15_code 14 = .ok (.ireturn, 1) := by decide +kernel
theorem kL_determinant_d15 : decode method_15_code 15 = .ok (.astore_n 3, 1) := by decide +kernel
theorem kL_determinant_d16 : decode method_15_code 16 = .ok (.iconst 3, 1) := by decide +kernel
theorem kL_determinant_d17 : decode method_15_code 17 = .ok (.ireturn, 1) := by decide +kernel
theorem kL_determinant_d18 : decode method_15_code 18 = .ok (.iconst 0, 1) := by decide +kernel
theorem kL_determinant_d19 : decode method_15_code 19 = .ok (.ireturn, 1) := by decide +kernel
theorem kL_hermite_d0 : decode method_16_code 0 = .ok (.aload_n 3, 1) := by decide +kernel
theorem kL_hermite_d1 : decode method_16_code 1 = .ok (.iconst 0, 1) := by decide +kernel
theorem kL_hermite_d2 : decode method_16_code 2 = .ok (.aload_n 0, 1) := by decide +kernel
theorem kL_hermite_d3 : decode method_16_code 3 = .ok (.iload_n 1, 1) := by decide +kernel
theorem kL_hermite_d4 : decode method_16_code 4 = .ok (.iload_n 2, 1) := by decide +kernel
theorem kL_hermite_d5 : decode method_16_code 5 = .ok (.invokevirtual 62, 3) := by decide +kernel
theorem kL_hermite_d8 : decode method_16_code 8 = .ok (.i2l, 1) := by decide +kernel
theorem kL_hermite_d9 : decode method_16_code 9 = .ok (.lastore, 1) := by decide +kernel
theorem kL_hermite_d10 : decode method_16_code 10 = .ok (.goto 15, 3) := by decide +kernel
theorem kL_hermite_d13 : decode method_16_code 13 = .ok (.astore 4, 2) := by decide +kernel
theorem kL_hermite_d15 : decode method_16_code 15 = .ok (.iconst 1, 1) := by decide +kernel
theorem kL_hermite_d16 : decode method_16_code 16 = .ok (.ireturn, 1) := by decide +kernel
theorem kL_hermite_d17 : decode method_16_code 17 = .ok (.astore 4, 2) := by decide +kernel
theorem kL_hermite_d19 : decode method_16_code 19 = .ok (.iconst 2, 1) := by decide +kernel
theorem kL_hermite_d20 : decode method_16_code 20 = .ok (.ireturn, 1) := by decide +kernel
theorem kL_hermite_d21 : decode method_16_code 21 = .ok (.astore 4, 2) := by decide +kernel
theorem kL_hermite_d23 : decode method_16_code 23 = .ok (.iconst 3, 1) := by decide +kernel
theorem kL_hermite_d24 : decode method_16_code 24 = .ok (.ireturn, 1) := by decide +kernel
theorem kL_hermite_d25 : decode method_16_code 25 = .ok (.iconst 0, 1) := by decide +kernel
theorem kL_hermite_d26 : decode method_16_code 26 = .ok (.ireturn, 1) := by decide +kernel
theorem kL_smith_d0 : decode method_17_code 0 = .ok (.aload_n 3, 1) := by decide +kernel
theorem kL_smith_d1 : decode method_17_code 1 = .ok (.iconst 0, 1) := by decide +kernel
theorem kL_smith_d2 : decode method_17_code 2 = .ok (.aload_n 0, 1) := by decide +kernel
theorem kL_smith_d3 : decode method_17_code 3 = .ok (.iload_n 1, 1) := by decide +kernel
theorem kL_smith_d4 : decode method_17_code 4 = .ok (.iload_n 2, 1) := by decide +kernel
theorem kL_smith_d5 : decode method_17_code 5 = .ok (.invokevirtual 65, 3) := by decide +kernel
theorem kL_smith_d8 : decode method_17_code 8 = .ok (.i2l, 1) := by decide +kernel
theorem kL_smith_d9 : decode method_17_code 9 = .ok (.lastore, 1) := by decide +kernel
theorem kL_smith_d10 : decode method_17_code 10 = .ok (.goto 15, 3) := by decide +kernel
theorem kL_smith_d13 : decode method_17_code 13 = .ok (.astore 4, 2) := by decide +kernel
theorem kL_smith_d15 : decode method_17_code 15 = .ok (.iconst 1, 1) := by decide +kernel
theorem kL_smith_d16 : decode method_17_code 16 = .ok (.ireturn, 1) := by decide +kernel
theorem kL_smith_d17 : decode method_17_code 17 = .ok (.astore 4, 2) := by decide +kernel
theorem kL_smith_d19 : decode method_17_code 19 = .ok (.iconst 2, 1) := by decide +kernel
theorem kL_smith_d20 : decode method_17_code 20 = .ok (.ireturn, 1) := by decide +kernel
theorem kL_smith_d21 : decode method_17_code 21 = .ok (.astore 4, 2) := by decide +kernel
theorem kL_smith_d23 : decode method_17_code 23 = .ok (.iconst 3, 1) := by decide +kernel
theorem kL_smith_d24 : decode method_17_code 24 = .ok (.ireturn, 1) := by decide +kernel
theorem kL_smith_d25 : decode method_17_code 25 = .ok (.iconst 0, 1) := by decide +kernel
theorem kL_smith_d26 : decode method_17_code 26 = .ok (.ireturn, 1) := by decide +kernel
theorem kL_size_d0 : decode method_18_code 0 = .ok (.aload_n 3, 1) := by decide +kernel
theorem kL_size_d1 : decode method_18_code 1 = .ok (.iconst 0, 1) := by decide +kernel
theorem kL_size_d2 : decode method_18_code 2 = .ok (.aload_n 0, 1) := by decide +kernel
theorem kL_size_d3 : decode method_18_code 3 = .ok (.iload_n 1, 1) := by decide +kernel
theorem kL_size_d4 : decode method_18_code 4 = .ok (.iload_n 2, 1) := by decide +kernel
theorem kL_size_d5 : decode method_18_code 5 = .ok (.invokevirtual 68, 3) := by decide +kernel
theorem kL_size_d8 : decode method_18_code 8 = .ok (.i2l, 1) := by decide +kernel
theorem kL_size_d9 : decode method_18_code 9 = .ok (.lastore, 1) := by decide +kernel
theorem kL_size_d10 : decode method_18_code 10 = .ok (.goto 7, 3) := by decide +kernel
theorem kL_size_d13 : decode method_18_code 13 = .ok (.astore 4, 2) := by decide +kernel
theorem kL_size_d15 : decode method_18_code 15 = .ok (.iconst 1, 1) := by decide +kernel
theorem kL_size_d16 : decode method_18_code 16 = .ok (.ireturn, 1) := by decide +kernel
theorem kL_size_d17 : decode method_18_code 17 = .ok (.iconst 0, 1) := by decide +kernel
theorem kL_size_d18 : decode method_18_code 18 = .ok (.ireturn, 1) := by decide +kernel
theorem kL_sign_d0 : decode method_19_code 0 = .ok (.aload 4, 2) := by decide +kernel
theorem kL_sign_d2 : decode method_19_code 2 = .ok (.iconst 0, 1) := by decide +kernel
theorem kL_sign_d3 : decode method_19_code 3 = .ok (.aload_n 0, 1) := by decide +kernel
theorem kL_sign_d4 : decode method_19_code 4 = .ok (.iload_n 1, 1) := by decide +kernel
theorem kL_sign_d5 : decode method_19_code 5 = .ok (.iload_n 2, 1) := by decide +kernel
theorem kL_sign_d6 : decode method_19_code 6 = .ok (.iload_n 3, 1) := by decide +kernel
theorem kL_sign_d7 : decode method_19_code 7 = .ok (.invokevirtual 72, 3) := by decide +kernel
theorem kL_sign_d10 : decode method_19_code 10 = .ok (.i2l, 1) := by decide +kernel
theorem kL_sign_d11 : decode method_19_code 11 = .ok (.lastore, 1) := by decide +kernel
theorem kL_sign_d12 : decode method_19_code 12 = .ok (.goto 7, 3) := by decide +kernel
theorem kL_sign_d15 : decode method_19_code 15 = .ok (.astore 5, 2) := by decide +kernel
theorem kL_sign_d17 : decode method_19_code 17 = .ok (.iconst 1, 1) := by decide +kernel
theorem kL_sign_d18 : decode method_19_code 18 = .ok (.ireturn, 1) := by decide +kernel
theorem kL_sign_d19 : decode method_19_code 19 = .ok (.iconst 0, 1) := by decide +kernel
theorem kL_sign_d20 : decode method_19_code 20 = .ok (.ireturn, 1) := by decide +kernel
theorem kL_length_d0 : decode method_20_code 0 = .ok (.aload 5, 2) := by decide +kernel
theorem kL_length_d2 : decode method_20_code 2 = .ok (.iconst 0, 1) := by decide +kernel
theorem kL_length_d3 : decode method_20_code 3 = .ok (.aload_n 0, 1) := by decide +kernel
theorem kL_length_d4 : decode method_20_code 4 = .ok (.iload_n 1, 1) := by decide +kernel
theorem kL_length_d5 : decode method_20_code 5 = .ok (.iload_n 2, 1) := by decide +kernel
theorem kL_length_d6 : decode method_20_code 6 = .ok (.iload_n 3, 1) := by decide +kernel
theorem kL_length_d7 : decode method_20_code 7 = .ok (.iload 4, 2) := by decide +kernel
theorem kL_length_d9 : decode method_20_code 9 = .ok (.invokevirtual 76, 3) := by decide +kernel
theorem kL_length_d12 : decode method_20_code 12 = .ok (.i2l, 1) := by decide +kernel
theorem kL_length_d13 : decode method_20_code 13 = .ok (.lastore, 1) := by decide +kernel
theorem kL_length_d14 : decode method_20_code 14 = .ok (.goto 7, 3) := by decide +kernel
theorem kL_length_d17 : decode method_20_code 17 = .ok (.astore 6, 2) := by decide +kernel
theorem kL_length_d19 : decode method_20_code 19 = .ok (.iconst 1, 1) := by decide +kernel
theorem kL_length_d20 : decode method_20_code 20 = .ok (.ireturn, 1) := by decide +kernel
theorem kL_length_d21 : decode method_20_code 21 = .ok (.iconst 0, 1) := by decide +kernel
theorem kL_length_d22 : decode method_20_code 22 = .ok (.ireturn, 1) := by decide +kernel
theorem kL_limb_d0 : decode method_21_code 0 = .ok (.aload 6, 2) := by decide +kernel
theorem kL_limb_d2 : decode method_21_code 2 = .ok (.iconst 0, 1) := by decide +kernel
theorem kL_limb_d3 : decode method_21_code 3 = .ok (.aload_n 0, 1) := by decide +kernel
theorem kL_limb_d4 : decode method_21_code 4 = .ok (.iload_n 1, 1) := by decide +kernel
theorem kL_limb_d5 : decode method_21_code 5 = .ok (.iload_n 2, 1) := by decide +kernel
theorem kL_limb_d6 : decode method_21_code 6 = .ok (.iload_n 3, 1) := by decide +kernel
theorem kL_limb_d7 : decode method_21_code 7 = .ok (.iload 4, 2) := by decide +kernel
theorem kL_limb_d9 : decode method_21_code 9 = .ok (.iload 5, 2) := by decide +kernel
theorem kL_limb_d11 : decode method_21_code 11 = .ok (.invokevirtual 80, 3) := by decide +kernel
theorem kL_limb_d14 : decode method_21_code 14 = .ok (.i2l, 1) := by decide +kernel
theorem kL_limb_d15 : decode method_21_code 15 = .ok (.lastore, 1) := by decide +kernel
theorem kL_limb_d16 : decode method_21_code 16 = .ok (.goto 7, 3) := by decide +kernel
theorem kL_limb_d19 : decode method_21_code 19 = .ok (.astore 7, 2) := by decide +kernel
theorem kL_limb_d21 : decode method_21_code 21 = .ok (.iconst 1, 1) := by decide +kernel
theorem kL_limb_d22 : decode method_21_code 22 = .ok (.ireturn, 1) := by decide +kernel
theorem kL_limb_d23 : decode method_21_code 23 = .ok (.iconst 0, 1) := by decide +kernel
theorem kL_limb_d24 : decode method_21_code 24 = .ok (.ireturn, 1) := by decide +kernel
theorem kL_same_d0 : decode method_22_code 0 = .ok (.aload_n 3, 1) := by decide +kernel
theorem kL_same_d1 : decode method_22_code 1 = .ok (.iconst 0, 1) := by decide +kernel
theorem kL_same_d2 : decode method_22_code 2 = .ok (.aload_n 0, 1) := by decide +kernel
theorem kL_same_d3 : decode method_22_code 3 = .ok (.iload_n 1, 1) := by decide +kernel
theorem kL_same_d4 : decode method_22_code 4 = .ok (.iload_n 2, 1) := by decide +kernel
theorem kL_same_d5 : decode method_22_code 5 = .ok (.invokevirtual 84, 3) := by decide +kernel
theorem kL_same_d8 : decode method_22_code 8 = .ok (.ifCond .eq 7, 3) := by decide +kernel
theorem kL_same_d11 : decode method_22_code 11 = .ok (.lconst 1, 1) := by decide +kernel
theorem kL_same_d12 : decode method_22_code 12 = .ok (.goto 4, 3) := by decide +kernel
theorem kL_same_d15 : decode method_22_code 15 = .ok (.lconst 0, 1) := by decide +kernel
theorem kL_same_d16 : decode method_22_code 16 = .ok (.lastore, 1) := by decide +kernel
theorem kL_same_d17 : decode method_22_code 17 = .ok (.goto 7, 3) := by decide +kernel
theorem kL_same_d20 : decode method_22_code 20 = .ok (.astore 4, 2) := by decide +kernel
theorem kL_same_d22 : decode method_22_code 22 = .ok (.iconst 1, 1) := by decide +kernel
theorem kL_same_d23 : decode method_22_code 23 = .ok (.ireturn, 1) := by decide +kernel
theorem kL_same_d24 : decode method_22_code 24 = .ok (.iconst 0, 1) := by decide +kernel
theorem kL_same_d25 : decode method_22_code 25 = .ok (.ireturn, 1) := by decide +kernel
theorem kL_law_d0 : decode code 0 = .ok (.new 8, 3) := by decide +kernel
theorem kL_law_d3 : decode code 3 = .ok (.dup, 1) := by decide +kernel
theorem kL_law_d4 : decode code 4 = .ok (.invokespecial 87, 3) := by decide +kernel
theorem kL_law_d7 : decode code 7 = .ok (.astore_n 1, 1) := by decide +kernel
theorem kL_law_d8 : decode code 8 = .ok (.new 88, 3) := by decide +kernel
theorem kL_law_d11 : decode code 11 = .ok (.dup, 1) := by decide +kernel
theorem kL_law_d12 : decode code 12 = .ok (.invokespecial 90, 3) := by decide +kernel
theorem kL_law_d15 : decode code 15 = .ok (.astore_n 2, 1) := by decide +kernel
theorem kL_law_d16 : decode code 16 = .ok (.iconst 1, 1) := by decide +kernel
theorem kL_law_d17 : decode code 17 = .ok (.newarray .long, 2) := by decide +kernel
theorem kL_law_d19 : decode code 19 = .ok (.astore_n 3, 1) := by decide +kernel
theorem kL_law_d20 : decode code 20 = .ok (.iconst 0, 1) := by decide +kernel
theorem kL_law_d21 : decode code 21 = .ok (.istore 4, 2) := by decide +kernel
theorem kL_law_d23 : decode code 23 = .ok (.iload 4, 2) := by decide +kernel
theorem kL_law_d25 : decode code 25 = .ok (.aload_n 0, 1) := by decide +kernel
theorem kL_law_d26 : decode code 26 = .ok (.arraylength, 1) := by decide +kernel
theorem kL_law_d27 : decode code 27 = .ok (.bipush 8, 2) := by decide +kernel
theorem kL_law_d29 : decode code 29 = .ok (.isub, 1) := by decide +kernel
theorem kL_law_d30 : decode code 30 = .ok (.if_icmp .gt 1675, 3) := by decide +kernel
theorem kL_law_d33 : decode code 33 = .ok (.aload_n 0, 1) := by decide +kernel
theorem kL_law_d34 : decode code 34 = .ok (.iload 4, 2) := by decide +kernel
theorem kL_law_d36 : decode code 36 = .ok (.iaload, 1) := by decide +kernel
theorem kL_law_d37 : decode code 37 = .ok (.bipush 31, 2) := by decide +kernel
theorem kL_law_d39 : decode code 39 = .ok (.iand, 1) := by decide +kernel
theorem kL_law_d136 : decode code 136 = .ok (.aload_n 1, 1) := by decide +kernel
theorem kL_law_d137 : decode code 137 = .ok (.aload_n 0, 1) := by decide +kernel
theorem kL_law_d138 : decode code 138 = .ok (.iload 4, 2) := by decide +kernel
theorem kL_law_d140 : decode code 140 = .ok (.iconst 1, 1) := by decide +kernel
theorem kL_law_d141 : decode code 141 = .ok (.iadd, 1) := by decide +kernel
theorem kL_law_d142 : decode code 142 = .ok (.iaload, 1) := by decide +kernel
theorem kL_law_d143 : decode code 143 = .ok (.aload_n 0, 1) := by decide +kernel
theorem kL_law_d144 : decode code 144 = .ok (.iload 4, 2) := by decide +kernel
theorem kL_law_d146 : decode code 146 = .ok (.iconst 2, 1) := by decide +kernel
theorem kL_law_d147 : decode code 147 = .ok (.iadd, 1) := by decide +kernel
theorem kL_law_d148 : decode code 148 = .ok (.iaload, 1) := by decide +kernel
theorem kL_law_d149 : decode code 149 = .ok (.aload_n 0, 1) := by decide +kernel
theorem kL_law_d150 : decode code 150 = .ok (.iload 4, 2) := by decide +kernel
theorem kL_law_d152 : decode code 152 = .ok (.iconst 3, 1) := by decide +kernel
theorem kL_law_d153 : decode code 153 = .ok (.iadd, 1) := by decide +kernel
theorem kL_law_d154 : decode code 154 = .ok (.iaload, 1) := by decide +kernel
theorem kL_law_d155 : decode code 155 = .ok (.invokestatic 91, 3) := by decide +kernel
theorem kL_law_d158 : decode code 158 = .ok (.istore 5, 2) := by decide +kernel
theorem kL_law_d160 : decode code 160 = .ok (.aload_n 2, 1) := by decide +kernel
theorem kL_law_d161 : decode code 161 = .ok (.aload_n 0, 1) := by decide +kernel
theorem kL_law_d162 : decode code 162 = .ok (.iload 4, 2) := by decide +kernel
theorem kL_law_d164 : decode code 164 = .ok (.iconst 1, 1) := by decide +kernel
theorem kL_law_d165 : decode code 165 = .ok (.iadd, 1) := by decide +kernel
theorem kL_law_d166 : decode code 166 = .ok (.iaload, 1) := by decide +kernel
theorem kL_law_d167 : decode code 167 = .ok (.aload_n 0, 1) := by decide +kernel
theorem kL_law_d168 : decode code 168 = .ok (.iload 4, 2) := by decide +kernel
theorem kL_law_d170 : decode code 170 = .ok (.iconst 2, 1) := by decide +kernel
theorem kL_law_d171 : decode code 171 = .ok (.iadd, 1) := by decide +kernel
theorem kL_law_d172 : decode code 172 = .ok (.iaload, 1) := by decide +kernel
theorem kL_law_d173 : decode code 173 = .ok (.aload_n 0, 1) := by decide +kernel
theorem kL_law_d174 : decode code 174 = .ok (.iload 4, 2) := by decide +kernel
theorem kL_law_d176 : decode code 176 = .ok (.iconst 3, 1) := by decide +kernel
theorem kL_law_d177 : decode code 177 = .ok (.iadd, 1) := by decide +kernel
theorem kL_law_d178 : decode code 178 = .ok (.iaload, 1) := by decide +kernel
theorem kL_law_d179 : decode code 179 = .ok (.invokevirtual 96, 3) := by decide +kernel
theorem kL_law_d182 : decode code 182 = .ok (.aload_n 2, 1) := by decide +kernel
theorem kL_law_d183 : decode code 183 = .ok (.invokevirtual 97, 3) := by decide +kernel
theorem kL_law_d186 : decode code 186 = .ok (.iload 5, 2) := by decide +kernel
theorem kL_law_d188 : decode code 188 = .ok (.if_icmp .eq 5, 3) := by decide +kernel
theorem kL_law_d191 : decode code 191 = .ok (.iconst 0, 1) := by decide +kernel
theorem kL_law_d192 : decode code 192 = .ok (.ireturn, 1) := by decide +kernel
theorem kL_law_d193 : decode code 193 = .ok (.goto 1506, 3) := by decide +kernel
theorem kL_law_d196 : decode code 196 = .ok (.aload_n 1, 1) := by decide +kernel
theorem kL_law_d197 : decode code 197 = .ok (.aload_n 0, 1) := by decide +kernel
theorem kL_law_d198 : decode code 198 = .ok (.iload 4, 2) := by decide +kernel
theorem kL_law_d200 : decode code 200 = .ok (.iconst 1, 1) := by decide +kernel
theorem kL_law_d201 : decode code 201 = .ok (.iadd, 1) := by decide +kernel
theorem kL_law_d202 : decode code 202 = .ok (.iaload, 1) := by decide +kernel
theorem kL_law_d203 : decode code 203 = .ok (.aload_n 0, 1) := by decide +kernel
theorem kL_law_d204 : decode code 204 = .ok (.iload 4, 2) := by decide +kernel
theorem kL_law_d206 : decode code 206 = .ok (.iconst 2, 1) := by decide +kernel
theorem kL_law_d207 : decode code 207 = .ok (.iadd, 1) := by decide +kernel
theorem kL_law_d208 : decode code 208 = .ok (.iaload, 1) := by decide +kernel
theorem kL_law_d209 : decode code 209 = .ok (.aload_n 0, 1) := by decide +kernel
theorem kL_law_d210 : decode code 210 = .ok (.iload 4, 2) := by decide +kernel
theorem kL_law_d212 : decode code 212 = .ok (.iconst 3, 1) := by decide +kernel
theorem kL_law_d213 : decode code 213 = .ok (.iadd, 1) := by decide +kernel
theorem kL_law_d214 : decode code 214 = .ok (.iaload, 1) := by decide +kernel
theorem kL_law_d215 : decode code 215 = .ok (.aload_n 0, 1) := by decide +kernel
theorem kL_law_d216 : decode code 216 = .ok (.iload 4, 2) := by decide +kernel
theorem kL_law_d218 : decode code 218 = .ok (.iconst 4, 1) := by decide +kernel
theorem kL_law_d219 : decode code 219 = .ok (.iadd, 1) := by decide +kernel
theorem kL_law_d220 : decode code 220 = .ok (.iaload, 1) := by decide +kernel
theorem kL_law_d221 : decode code 221 = .ok (.i2l, 1) := by decide +kernel
theorem kL_law_d222 : decode code 222 = .ok (.bipush 32, 2) := by decide +kernel
theorem kL_law_d224 : decode code 224 = .ok (.lshl, 1) := by decide +kernel
theorem kL_law_d225 : decode code 225 = .ok (.aload_n 0, 1) := by decide +kernel
theorem kL_law_d226 : decode code 226 = .ok (.iload 4, 2) := by decide +kernel
theorem kL_law_d228 : decode code 228 = .ok (.iconst 5, 1) := by decide +kernel
theorem kL_law_d229 : decode code 229 = .ok (.iadd, 1) := by decide +kernel
theorem kL_law_d230 : decode code 230 = .ok (.iaload, 1) := by decide +kernel
theorem kL_law_d231 : decode code 231 = .ok (.i2l, 1) := by decide +kernel
theorem kL_law_d232 : decode code 232 = .ok (.ldc2_w 101, 3) := by decide +kernel
theorem kL_law_d235 : decode code 235 = .ok (.land, 1) := by decide +kernel
theorem kL_law_d236 : decode code 236 = .ok (.lor, 1) := by decide +kernel
theorem kL_law_d237 : decode code 237 = .ok (.aload_n 0, 1) := by decide +kernel
theorem kL_law_d238 : decode code 238 = .ok (.iload 4, 2) := by decide +kernel
theorem kL_law_d240 : decode code 240 = .ok (.bipush 6, 2) := by decide +kernel
theorem kL_law_d242 : decode code 242 = .ok (.iadd, 1) := by decide +kernel
theorem kL_law_d243 : decode code 243 = .ok (.iaload, 1) := by decide +kernel
theorem kL_law_d244 : decode code 244 = .ok (.i2l, 1) := by decide +kernel
theorem kL_law_d245 : decode code 245 = .ok (.bipush 32, 2) := by decide +kernel
theorem kL_law_d247 : decode code 247 = .ok (.lshl, 1) := by decide +kernel
theorem kL_law_d248 : decode code 248 = .ok (.aload_n 0, 1) := by decide +kernel
theorem kL_law_d249 : decode code 249 = .ok (.iload 4, 2) := by decide +kernel
theorem kL_law_d251 : decode code 251 = .ok (.bipush 7, 2) := by decide +kernel
theorem kL_law_d253 : decode code 253 = .ok (.iadd, 1) := by decide +kernel
theorem kL_law_d254 : decode code 254 = .ok (.iaload, 1) := by decide +kernel
theorem kL_law_d255 : decode code 255 = .ok (.i2l, 1) := by decide +kernel
theorem kL_law_d256 : decode code 256 = .ok (.ldc2_w 101, 3) := by decide +kernel
theorem kL_law_d259 : decode code 259 = .ok (.land, 1) := by decide +kernel
theorem kL_law_d260 : decode code 260 = .ok (.lor, 1) := by decide +kernel
theorem kL_law_d261 : decode code 261 = .ok (.invokestatic 103, 3) := by decide +kernel
theorem kL_law_d264 : decode code 264 = .ok (.istore 5, 2) := by decide +kernel
theorem kL_law_d266 : decode code 266 = .ok (.aload_n 2, 1) := by decide +kernel
theorem kL_law_d267 : decode code 267 = .ok (.aload_n 0, 1) := by decide +kernel
theorem kL_law_d268 : decode code 268 = .ok (.iload 4, 2) := by decide +kernel
theorem kL_law_d270 : decode code 270 = .ok (.iconst 1, 1) := by decide +kernel
theorem kL_law_d271 : decode code 271 = .ok (.iadd, 1) := by decide +kernel
theorem kL_law_d272 : decode code 272 = .ok (.iaload, 1) := by decide +kernel
theorem kL_law_d273 : decode code 273 = .ok (.aload_n 0, 1) := by decide +kernel
theorem kL_law_d274 : decode code 274 = .ok (.iload 4, 2) := by decide +kernel
theorem kL_law_d276 : decode code 276 = .ok (.iconst 2, 1) := by decide +kernel
theorem kL_law_d277 : decode code 277 = .ok (.iadd, 1) := by decide +kernel
theorem kL_law_d278 : decode code 278 = .ok (.iaload, 1) := by decide +kernel
theorem kL_law_d279 : decode code 279 = .ok (.aload_n 0, 1) := by decide +kernel
theorem kL_law_d280 : decode code 280 = .ok (.iload 4, 2) := by decide +kernel
theorem kL_law_d282 : decode code 282 = .ok (.iconst 3, 1) := by decide +kernel
theorem kL_law_d283 : decode code 283 = .ok (.iadd, 1) := by decide +kernel
theorem kL_law_d284 : decode code 284 = .ok (.iaload, 1) := by decide +kernel
theorem kL_law_d285 : decode code 285 = .ok (.aload_n 0, 1) := by decide +kernel
theorem kL_law_d286 : decode code 286 = .ok (.iload 4, 2) := by decide +kernel
theorem kL_law_d288 : decode code 288 = .ok (.iconst 4, 1) := by decide +kernel
theorem kL_law_d289 : decode code 289 = .ok (.iadd, 1) := by decide +kernel
theorem kL_law_d290 : decode code 290 = .ok (.iaload, 1) := by decide +kernel
theorem kL_law_d291 : decode code 291 = .ok (.i2l, 1) := by decide +kernel
theorem kL_law_d292 : decode code 292 = .ok (.bipush 32, 2) := by decide +kernel
theorem kL_law_d294 : decode code 294 = .ok (.lshl, 1) := by decide +kernel
theorem kL_law_d295 : decode code 295 = .ok (.aload_n 0, 1) := by decide +kernel
theorem kL_law_d296 : decode code 296 = .ok (.iload 4, 2) := by decide +kernel
theorem kL_law_d298 : decode code 298 = .ok (.iconst 5, 1) := by decide +kernel
theorem kL_law_d299 : decode code 299 = .ok (.iadd, 1) := by decide +kernel
theorem kL_law_d300 : decode code 300 = .ok (.iaload, 1) := by decide +kernel
theorem kL_law_d301 : decode code 301 = .ok (.i2l, 1) := by decide +kernel
theorem kL_law_d302 : decode code 302 = .ok (.ldc2_w 101, 3) := by decide +kernel
theorem kL_law_d305 : decode code 305 = .ok (.land, 1) := by decide +kernel
theorem kL_law_d306 : decode code 306 = .ok (.lor, 1) := by decide +kernel
theorem kL_law_d307 : decode code 307 = .ok (.aload_n 0, 1) := by decide +kernel
theorem kL_law_d308 : decode code 308 = .ok (.iload 4, 2) := by decide +kernel
theorem kL_law_d310 : decode code 310 = .ok (.bipush 6, 2) := by decide +kernel
theorem kL_law_d312 : decode code 312 = .ok (.iadd, 1) := by decide +kernel
theorem kL_law_d313 : decode code 313 = .ok (.iaload, 1) := by decide +kernel
theorem kL_law_d314 : decode code 314 = .ok (.i2l, 1) := by decide +kernel
theorem kL_law_d315 : decode code 315 = .ok (.bipush 32, 2) := by decide +kernel
theorem kL_law_d317 : decode code 317 = .ok (.lshl, 1) := by decide +kernel
theorem kL_law_d318 : decode code 318 = .ok (.aload_n 0, 1) := by decide +kernel
theorem kL_law_d319 : decode code 319 = .ok (.iload 4, 2) := by decide +kernel
theorem kL_law_d321 : decode code 321 = .ok (.bipush 7, 2) := by decide +kernel
theorem kL_law_d323 : decode code 323 = .ok (.iadd, 1) := by decide +kernel
theorem kL_law_d324 : decode code 324 = .ok (.iaload, 1) := by decide +kernel
theorem kL_law_d325 : decode code 325 = .ok (.i2l, 1) := by decide +kernel
theorem kL_law_d326 : decode code 326 = .ok (.ldc2_w 101, 3) := by decide +kernel
theorem kL_law_d329 : decode code 329 = .ok (.land, 1) := by decide +kernel
theorem kL_law_d330 : decode code 330 = .ok (.lor, 1) := by decide +kernel
theorem kL_law_d331 : decode code 331 = .ok (.invokevirtual 106, 3) := by decide +kernel
theorem kL_law_d334 : decode code 334 = .ok (.aload_n 2, 1) := by decide +kernel
theorem kL_law_d335 : decode code 335 = .ok (.invokevirtual 97, 3) := by decide +kernel
theorem kL_law_d338 : decode code 338 = .ok (.iload 5, 2) := by decide +kernel
theorem kL_law_d340 : decode code 340 = .ok (.if_icmp .eq 5, 3) := by decide +kernel
theorem kL_law_d343 : decode code 343 = .ok (.iconst 0, 1) := by decide +kernel
theorem kL_law_d344 : decode code 344 = .ok (.ireturn, 1) := by decide +kernel
theorem kL_law_d345 : decode code 345 = .ok (.goto 1354, 3) := by decide +kernel
theorem kL_law_d348 : decode code 348 = .ok (.aload_n 1, 1) := by decide +kernel
theorem kL_law_d349 : decode code 349 = .ok (.aload_n 0, 1) := by decide +kernel
theorem kL_law_d350 : decode code 350 = .ok (.iload 4, 2) := by decide +kernel
theorem kL_law_d352 : decode code 352 = .ok (.iconst 1, 1) := by decide +kernel
theorem kL_law_d353 : decode code 353 = .ok (.iadd, 1) := by decide +kernel
theorem kL_law_d354 : decode code 354 = .ok (.iaload, 1) := by decide +kernel
theorem kL_law_d355 : decode code 355 = .ok (.aload_n 0, 1) := by decide +kernel
theorem kL_law_d356 : decode code 356 = .ok (.iload 4, 2) := by decide +kernel
theorem kL_law_d358 : decode code 358 = .ok (.iconst 2, 1) := by decide +kernel
theorem kL_law_d359 : decode code 359 = .ok (.iadd, 1) := by decide +kernel
theorem kL_law_d360 : decode code 360 = .ok (.iaload, 1) := by decide +kernel
theorem kL_law_d361 : decode code 361 = .ok (.invokestatic 107, 3) := by decide +kernel
theorem kL_law_d364 : decode code 364 = .ok (.istore 5, 2) := by decide +kernel
theorem kL_law_d366 : decode code 366 = .ok (.aload_n 2, 1) := by decide +kernel
theorem kL_law_d367 : decode code 367 = .ok (.aload_n 0, 1) := by decide +kernel
theorem kL_law_d368 : decode code 368 = .ok (.iload 4, 2) := by decide +kernel
theorem kL_law_d370 : decode code 370 = .ok (.iconst 1, 1) := by decide +kernel
theorem kL_law_d371 : decode code 371 = .ok (.iadd, 1) := by decide +kernel
theorem kL_law_d372 : decode code 372 = .ok (.iaload, 1) := by decide +kernel
theorem kL_law_d373 : decode code 373 = .ok (.aload_n 0, 1) := by decide +kernel
theorem kL_law_d374 : decode code 374 = .ok (.iload 4, 2) := by decide +kernel
theorem kL_law_d376 : decode code 376 = .ok (.iconst 2, 1) := by decide +kernel
theorem kL_law_d377 : decode code 377 = .ok (.iadd, 1) := by decide +kernel
theorem kL_law_d378 : decode code 378 = .ok (.iaload, 1) := by decide +kernel
theorem kL_law_d379 : decode code 379 = .ok (.invokevirtual 110, 3) := by decide +kernel
theorem kL_law_d382 : decode code 382 = .ok (.aload_n 2, 1) := by decide +kernel
theorem kL_law_d383 : decode code 383 = .ok (.invokevirtual 97, 3) := by decide +kernel
theorem kL_law_d386 : decode code 386 = .ok (.iload 5, 2) := by decide +kernel
theorem kL_law_d388 : decode code 388 = .ok (.if_icmp .eq 5, 3) := by decide +kernel
theorem kL_law_d391 : decode code 391 = .ok (.iconst 0, 1) := by decide +kernel
theorem kL_law_d392 : decode code 392 = .ok (.ireturn, 1) := by decide +kernel
theorem kL_law_d393 : decode code 393 = .ok (.goto 1306, 3) := by decide +kernel
theorem kL_law_d396 : decode code 396 = .ok (.aload_n 1, 1) := by decide +kernel
theorem kL_law_d397 : decode code 397 = .ok (.aload_n 0, 1) := by decide +kernel
theorem kL_law_d398 : decode code 398 = .ok (.iload 4, 2) := by decide +kernel
theorem kL_law_d400 : decode code 400 = .ok (.iconst 1, 1) := by decide +kernel
theorem kL_law_d401 : decode code 401 = .ok (.iadd, 1) := by decide +kernel
theorem kL_law_d402 : decode code 402 = .ok (.iaload, 1) := by decide +kernel
theorem kL_law_d403 : decode code 403 = .ok (.aload_n 0, 1) := by decide +kernel
theorem kL_law_d404 : decode code 404 = .ok (.iload 4, 2) := by decide +kernel
theorem kL_law_d406 : decode code 406 = .ok (.iconst 2, 1) := by decide +kernel
theorem kL_law_d407 : decode code 407 = .ok (.iadd, 1) := by decide +kernel
theorem kL_law_d408 : decode code 408 = .ok (.iaload, 1) := by decide +kernel
theorem kL_law_d409 : decode code 409 = .ok (.aload_n 0, 1) := by decide +kernel
theorem kL_law_d410 : decode code 410 = .ok (.iload 4, 2) := by decide +kernel
theorem kL_law_d412 : decode code 412 = .ok (.iconst 3, 1) := by decide +kernel
theorem kL_law_d413 : decode code 413 = .ok (.iadd, 1) := by decide +kernel
theorem kL_law_d414 : decode code 414 = .ok (.iaload, 1) := by decide +kernel
theorem kL_law_d415 : decode code 415 = .ok (.aload_n 0, 1) := by decide +kernel
theorem kL_law_d416 : decode code 416 = .ok (.iload 4, 2) := by decide +kernel
theorem kL_law_d418 : decode code 418 = .ok (.iconst 4, 1) := by decide +kernel
theorem kL_law_d419 : decode code 419 = .ok (.iadd, 1) := by decide +kernel
theorem kL_law_d420 : decode code 420 = .ok (.iaload, 1) := by decide +kernel
theorem kL_law_d421 : decode code 421 = .ok (.ifCond .eq 7, 3) := by decide +kernel
theorem kL_law_d424 : decode code 424 = .ok (.iconst 1, 1) := by decide +kernel
theorem kL_law_d425 : decode code 425 = .ok (.goto 4, 3) := by decide +kernel
theorem kL_law_d428 : decode code 428 = .ok (.iconst 0, 1) := by decide +kernel
theorem kL_law_d429 : decode code 429 = .ok (.invokestatic 111, 3) := by decide +kernel
theorem kL_law_d432 : decode code 432 = .ok (.istore 5, 2) := by decide +kernel
theorem kL_law_d434 : decode code 434 = .ok (.aload_n 2, 1) := by decide +kernel
theorem kL_law_d435 : decode code 435 = .ok (.aload_n 0, 1) := by decide +kernel
theorem kL_law_d436 : decode code 436 = .ok (.iload 4, 2) := by decide +kernel
theorem kL_law_d438 : decode code 438 = .ok (.iconst 1, 1) := by decide +kernel
theorem kL_law_d439 : decode code 439 = .ok (.iadd, 1) := by decide +kernel
theorem kL_law_d440 : decode code 440 = .ok (.iaload, 1) := by decide +kernel
theorem kL_law_d441 : decode code 441 = .ok (.aload_n 0, 1) := by decide +kernel
theorem kL_law_d442 : decode code 442 = .ok (.iload 4, 2) := by decide +kernel
theorem kL_law_d444 : decode code 444 = .ok (.iconst 2, 1) := by decide +kernel
theorem kL_law_d445 : decode code 445 = .ok (.iadd, 1) := by decide +kernel
theorem kL_law_d446 : decode code 446 = .ok (.iaload, 1) := by decide +kernel
theorem kL_law_d447 : decode code 447 = .ok (.aload_n 0, 1) := by decide +kernel
theorem kL_law_d448 : decode code 448 = .ok (.iload 4, 2) := by decide +kernel
theorem kL_law_d450 : decode code 450 = .ok (.iconst 3, 1) := by decide +kernel
theorem kL_law_d451 : decode code 451 = .ok (.iadd, 1) := by decide +kernel
theorem kL_law_d452 : decode code 452 = .ok (.iaload, 1) := by decide +kernel
theorem kL_law_d453 : decode code 453 = .ok (.aload_n 0, 1) := by decide +kernel
theorem kL_law_d454 : decode code 454 = .ok (.iload 4, 2) := by decide +kernel
theorem kL_law_d456 : decode code 456 = .ok (.iconst 4, 1) := by decide +kernel
theorem kL_law_d457 : decode code 457 = .ok (.iadd, 1) := by decide +kernel
theorem kL_law_d458 : decode code 458 = .ok (.iaload, 1) := by decide +kernel
theorem kL_law_d459 : decode code 459 = .ok (.ifCond .eq 7, 3) := by decide +kernel
theorem kL_law_d462 : decode code 462 = .ok (.iconst 1, 1) := by decide +kernel
theorem kL_law_d463 : decode code 463 = .ok (.goto 4, 3) := by decide +kernel
theorem kL_law_d466 : decode code 466 = .ok (.iconst 0, 1) := by decide +kernel
theorem kL_law_d467 : decode code 467 = .ok (.invokevirtual 114, 3) := by decide +kernel
theorem kL_law_d470 : decode code 470 = .ok (.aload_n 2, 1) := by decide +kernel
theorem kL_law_d471 : decode code 471 = .ok (.invokevirtual 97, 3) := by decide +kernel
theorem kL_law_d474 : decode code 474 = .ok (.iload 5, 2) := by decide +kernel
theorem kL_law_d476 : decode code 476 = .ok (.if_icmp .eq 5, 3) := by decide +kernel
theorem kL_law_d479 : decode code 479 = .ok (.iconst 0, 1) := by decide +kernel
theorem kL_law_d480 : decode code 480 = .ok (.ireturn, 1) := by decide +kernel
theorem kL_law_d481 : decode code 481 = .ok (.goto 1218, 3) := by decide +kernel
theorem kL_law_d484 : decode code 484 = .ok (.aload_n 1, 1) := by decide +kernel
theorem kL_law_d485 : decode code 485 = .ok (.aload_n 0, 1) := by decide +kernel
theorem kL_law_d486 : decode code 486 = .ok (.iload 4, 2) := by decide +kernel
theorem kL_law_d488 : decode code 488 = .ok (.iconst 1, 1) := by decide +kernel
theorem kL_law_d489 : decode code 489 = .ok (.iadd, 1) := by decide +kernel
theorem kL_law_d490 : decode code 490 = .ok (.iaload, 1) := by decide +kernel
theorem kL_law_d491 : decode code 491 = .ok (.aload_n 0, 1) := by decide +kernel
theorem kL_law_d492 : decode code 492 = .ok (.iload 4, 2) := by decide +kernel
theorem kL_law_d494 : decode code 494 = .ok (.iconst 2, 1) := by decide +kernel
theorem kL_law_d495 : decode code 495 = .ok (.iadd, 1) := by decide +kernel
theorem kL_law_d496 : decode code 496 = .ok (.iaload, 1) := by decide +kernel
theorem kL_law_d497 : decode code 497 = .ok (.aload_n 0, 1) := by decide +kernel
theorem kL_law_d498 : decode code 498 = .ok (.iload 4, 2) := by decide +kernel
theorem kL_law_d500 : decode code 500 = .ok (.iconst 3, 1) := by decide +kernel
theorem kL_law_d501 : decode code 501 = .ok (.iadd, 1) := by decide +kernel
theorem kL_law_d502 : decode code 502 = .ok (.iaload, 1) := by decide +kernel
theorem kL_law_d503 : decode code 503 = .ok (.invokestatic 115, 3) := by decide +kernel
theorem kL_law_d506 : decode code 506 = .ok (.istore 5, 2) := by decide +kernel
theorem kL_law_d508 : decode code 508 = .ok (.aload_n 2, 1) := by decide +kernel
theorem kL_law_d509 : decode code 509 = .ok (.aload_n 0, 1) := by decide +kernel
theorem kL_law_d510 : decode code 510 = .ok (.iload 4, 2) := by decide +kernel
theorem kL_law_d512 : decode code 512 = .ok (.iconst 1, 1) := by decide +kernel
theorem kL_law_d513 : decode code 513 = .ok (.iadd, 1) := by decide +kernel
theorem kL_law_d514 : decode code 514 = .ok (.iaload, 1) := by decide +kernel
theorem kL_law_d515 : decode code 515 = .ok (.aload_n 0, 1) := by decide +kernel
theorem kL_law_d516 : decode code 516 = .ok (.iload 4, 2) := by decide +kernel
theorem kL_law_d518 : decode code 518 = .ok (.iconst 2, 1) := by decide +kernel
theorem kL_law_d519 : decode code 519 = .ok (.iadd, 1) := by decide +kernel
theorem kL_law_d520 : decode code 520 = .ok (.iaload, 1) := by decide +kernel
theorem kL_law_d521 : decode code 521 = .ok (.aload_n 0, 1) := by decide +kernel
theorem kL_law_d522 : decode code 522 = .ok (.iload 4, 2) := by decide +kernel
theorem kL_law_d524 : decode code 524 = .ok (.iconst 3, 1) := by decide +kernel
theorem kL_law_d525 : decode code 525 = .ok (.iadd, 1) := by decide +kernel
theorem kL_law_d526 : decode code 526 = .ok (.iaload, 1) := by decide +kernel
theorem kL_law_d527 : decode code 527 = .ok (.invokevirtual 117, 3) := by decide +kernel
theorem kL_law_d530 : decode code 530 = .ok (.aload_n 2, 1) := by decide +kernel
theorem kL_law_d531 : decode code 531 = .ok (.invokevirtual 97, 3) := by decide +kernel
theorem kL_law_d534 : decode code 534 = .ok (.iload 5, 2) := by decide +kernel
theorem kL_law_d536 : decode code 536 = .ok (.if_icmp .eq 5, 3) := by decide +kernel
theorem kL_law_d539 : decode code 539 = .ok (.iconst 0, 1) := by decide +kernel
theorem kL_law_d540 : decode code 540 = .ok (.ireturn, 1) := by decide +kernel
theorem kL_law_d541 : decode code 541 = .ok (.goto 1158, 3) := by decide +kernel
theorem kL_law_d544 : decode code 544 = .ok (.aload_n 1, 1) := by decide +kernel
theorem kL_law_d545 : decode code 545 = .ok (.aload_n 0, 1) := by decide +kernel
theorem kL_law_d546 : decode code 546 = .ok (.iload 4, 2) := by decide +kernel
theorem kL_law_d548 : decode code 548 = .ok (.iconst 1, 1) := by decide +kernel
theorem kL_law_d549 : decode code 549 = .ok (.iadd, 1) := by decide +kernel
theorem kL_law_d550 : decode code 550 = .ok (.iaload, 1) := by decide +kernel
theorem kL_law_d551 : decode code 551 = .ok (.aload_n 0, 1) := by decide +kernel
theorem kL_law_d552 : decode code 552 = .ok (.iload 4, 2) := by decide +kernel
theorem kL_law_d554 : decode code 554 = .ok (.iconst 2, 1) := by decide +kernel
theorem kL_law_d555 : decode code 555 = .ok (.iadd, 1) := by decide +kernel
theorem kL_law_d556 : decode code 556 = .ok (.iaload, 1) := by decide +kernel
theorem kL_law_d557 : decode code 557 = .ok (.invokestatic 118, 3) := by decide +kernel
theorem kL_law_d560 : decode code 560 = .ok (.istore 5, 2) := by decide +kernel
theorem kL_law_d562 : decode code 562 = .ok (.aload_n 2, 1) := by decide +kernel
theorem kL_law_d563 : decode code 563 = .ok (.aload_n 0, 1) := by decide +kernel
theorem kL_law_d564 : decode code 564 = .ok (.iload 4, 2) := by decide +kernel
theorem kL_law_d566 : decode code 566 = .ok (.iconst 1, 1) := by decide +kernel
theorem kL_law_d567 : decode code 567 = .ok (.iadd, 1) := by decide +kernel
theorem kL_law_d568 : decode code 568 = .ok (.iaload, 1) := by decide +kernel
theorem kL_law_d569 : decode code 569 = .ok (.aload_n 0, 1) := by decide +kernel
theorem kL_law_d570 : decode code 570 = .ok (.iload 4, 2) := by decide +kernel
theorem kL_law_d572 : decode code 572 = .ok (.iconst 2, 1) := by decide +kernel
theorem kL_law_d573 : decode code 573 = .ok (.iadd, 1) := by decide +kernel
theorem kL_law_d574 : decode code 574 = .ok (.iaload, 1) := by decide +kernel
theorem kL_law_d575 : decode code 575 = .ok (.invokevirtual 120, 3) := by decide +kernel
theorem kL_law_d578 : decode code 578 = .ok (.aload_n 2, 1) := by decide +kernel
theorem kL_law_d579 : decode code 579 = .ok (.invokevirtual 97, 3) := by decide +kernel
theorem kL_law_d582 : decode code 582 = .ok (.iload 5, 2) := by decide +kernel
theorem kL_law_d584 : decode code 584 = .ok (.if_icmp .eq 5, 3) := by decide +kernel
theorem kL_law_d587 : decode code 587 = .ok (.iconst 0, 1) := by decide +kernel
theorem kL_law_d588 : decode code 588 = .ok (.ireturn, 1) := by decide +kernel
theorem kL_law_d589 : decode code 589 = .ok (.goto 1110, 3) := by decide +kernel
theorem kL_law_d592 : decode code 592 = .ok (.aload_n 1, 1) := by decide +kernel
theorem kL_law_d593 : decode code 593 = .ok (.aload_n 0, 1) := by decide +kernel
theorem kL_law_d594 : decode code 594 = .ok (.iload 4, 2) := by decide +kernel
theorem kL_law_d596 : decode code 596 = .ok (.iconst 1, 1) := by decide +kernel
theorem kL_law_d597 : decode code 597 = .ok (.iadd, 1) := by decide +kernel
theorem kL_law_d598 : decode code 598 = .ok (.iaload, 1) := by decide +kernel
theorem kL_law_d599 : decode code 599 = .ok (.aload_n 0, 1) := by decide +kernel
theorem kL_law_d600 : decode code 600 = .ok (.iload 4, 2) := by decide +kernel
theorem kL_law_d602 : decode code 602 = .ok (.iconst 2, 1) := by decide +kernel
theorem kL_law_d603 : decode code 603 = .ok (.iadd, 1) := by decide +kernel
theorem kL_law_d604 : decode code 604 = .ok (.iaload, 1) := by decide +kernel
theorem kL_law_d605 : decode code 605 = .ok (.aload_n 0, 1) := by decide +kernel
theorem kL_law_d606 : decode code 606 = .ok (.iload 4, 2) := by decide +kernel
theorem kL_law_d608 : decode code 608 = .ok (.iconst 3, 1) := by decide +kernel
theorem kL_law_d609 : decode code 609 = .ok (.iadd, 1) := by decide +kernel
theorem kL_law_d610 : decode code 610 = .ok (.iaload, 1) := by decide +kernel
theorem kL_law_d611 : decode code 611 = .ok (.invokestatic 121, 3) := by decide +kernel
theorem kL_law_d614 : decode code 614 = .ok (.istore 5, 2) := by decide +kernel
theorem kL_law_d616 : decode code 616 = .ok (.aload_n 2, 1) := by decide +kernel
theorem kL_law_d617 : decode code 617 = .ok (.aload_n 0, 1) := by decide +kernel
theorem kL_law_d618 : decode code 618 = .ok (.iload 4, 2) := by decide +kernel
theorem kL_law_d620 : decode code 620 = .ok (.iconst 1, 1) := by decide +kernel
theorem kL_law_d621 : decode code 621 = .ok (.iadd, 1) := by decide +kernel
theorem kL_law_d622 : decode code 622 = .ok (.iaload, 1) := by decide +kernel
theorem kL_law_d623 : decode code 623 = .ok (.aload_n 0, 1) := by decide +kernel
theorem kL_law_d624 : decode code 624 = .ok (.iload 4, 2) := by decide +kernel
theorem kL_law_d626 : decode code 626 = .ok (.iconst 2, 1) := by decide +kernel
theorem kL_law_d627 : decode code 627 = .ok (.iadd, 1) := by decide +kernel
theorem kL_law_d628 : decode code 628 = .ok (.iaload, 1) := by decide +kernel
theorem kL_law_d629 : decode code 629 = .ok (.aload_n 0, 1) := by decide +kernel
theorem kL_law_d630 : decode code 630 = .ok (.iload 4, 2) := by decide +kernel
theorem kL_law_d632 : decode code 632 = .ok (.iconst 3, 1) := by decide +kernel
theorem kL_law_d633 : decode code 633 = .ok (.iadd, 1) := by decide +kernel
theorem kL_law_d634 : decode code 634 = .ok (.iaload, 1) := by decide +kernel
theorem kL_law_d635 : decode code 635 = .ok (.invokevirtual 123, 3) := by decide +kernel
theorem kL_law_d638 : decode code 638 = .ok (.aload_n 2, 1) := by decide +kernel
theorem kL_law_d639 : decode code 639 = .ok (.invokevirtual 97, 3) := by decide +kernel
theorem kL_law_d642 : decode code 642 = .ok (.iload 5, 2) := by decide +kernel
theorem kL_law_d644 : decode code 644 = .ok (.if_icmp .eq 5, 3) := by decide +kernel
theorem kL_law_d647 : decode code 647 = .ok (.iconst 0, 1) := by decide +kernel
theorem kL_law_d648 : decode code 648 = .ok (.ireturn, 1) := by decide +kernel
theorem kL_law_d649 : decode code 649 = .ok (.goto 1050, 3) := by decide +kernel
theorem kL_law_d652 : decode code 652 = .ok (.aload_n 1, 1) := by decide +kernel
theorem kL_law_d653 : decode code 653 = .ok (.aload_n 0, 1) := by decide +kernel
theorem kL_law_d654 : decode code 654 = .ok (.iload 4, 2) := by decide +kernel
theorem kL_law_d656 : decode code 656 = .ok (.iconst 1, 1) := by decide +kernel
theorem kL_law_d657 : decode code 657 = .ok (.iadd, 1) := by decide +kernel
theorem kL_law_d658 : decode code 658 = .ok (.iaload, 1) := by decide +kernel
theorem kL_law_d659 : decode code 659 = .ok (.aload_n 0, 1) := by decide +kernel
theorem kL_law_d660 : decode code 660 = .ok (.iload 4, 2) := by decide +kernel
theorem kL_law_d662 : decode code 662 = .ok (.iconst 2, 1) := by decide +kernel
theorem kL_law_d663 : decode code 663 = .ok (.iadd, 1) := by decide +kernel
theorem kL_law_d664 : decode code 664 = .ok (.iaload, 1) := by decide +kernel
theorem kL_law_d665 : decode code 665 = .ok (.aload_n 0, 1) := by decide +kernel
theorem kL_law_d666 : decode code 666 = .ok (.iload 4, 2) := by decide +kernel
theorem kL_law_d668 : decode code 668 = .ok (.iconst 3, 1) := by decide +kernel
theorem kL_law_d669 : decode code 669 = .ok (.iadd, 1) := by decide +kernel
theorem kL_law_d670 : decode code 670 = .ok (.iaload, 1) := by decide +kernel
theorem kL_law_d671 : decode code 671 = .ok (.aload_n 0, 1) := by decide +kernel
theorem kL_law_d672 : decode code 672 = .ok (.iload 4, 2) := by decide +kernel
theorem kL_law_d674 : decode code 674 = .ok (.iconst 4, 1) := by decide +kernel
theorem kL_law_d675 : decode code 675 = .ok (.iadd, 1) := by decide +kernel
theorem kL_law_d676 : decode code 676 = .ok (.iaload, 1) := by decide +kernel
theorem kL_law_d677 : decode code 677 = .ok (.aload_n 0, 1) := by decide +kernel
theorem kL_law_d678 : decode code 678 = .ok (.iload 4, 2) := by decide +kernel
theorem kL_law_d680 : decode code 680 = .ok (.iconst 5, 1) := by decide +kernel
theorem kL_law_d681 : decode code 681 = .ok (.iadd, 1) := by decide +kernel
theorem kL_law_d682 : decode code 682 = .ok (.iaload, 1) := by decide +kernel
theorem kL_law_d683 : decode code 683 = .ok (.aload_n 0, 1) := by decide +kernel
theorem kL_law_d684 : decode code 684 = .ok (.iload 4, 2) := by decide +kernel
theorem kL_law_d686 : decode code 686 = .ok (.bipush 6, 2) := by decide +kernel
theorem kL_law_d688 : decode code 688 = .ok (.iadd, 1) := by decide +kernel
theorem kL_law_d689 : decode code 689 = .ok (.iaload, 1) := by decide +kernel
theorem kL_law_d690 : decode code 690 = .ok (.invokestatic 124, 3) := by decide +kernel
theorem kL_law_d693 : decode code 693 = .ok (.istore 5, 2) := by decide +kernel
theorem kL_law_d695 : decode code 695 = .ok (.aload_n 2, 1) := by decide +kernel
theorem kL_law_d696 : decode code 696 = .ok (.aload_n 0, 1) := by decide +kernel
theorem kL_law_d697 : decode code 697 = .ok (.iload 4, 2) := by decide +kernel
theorem kL_law_d699 : decode code 699 = .ok (.iconst 1, 1) := by decide +kernel
theorem kL_law_d700 : decode code 700 = .ok (.iadd, 1) := by decide +kernel
theorem kL_law_d701 : decode code 701 = .ok (.iaload, 1) := by decide +kernel
theorem kL_law_d702 : decode code 702 = .ok (.aload_n 0, 1) := by decide +kernel
theorem kL_law_d703 : decode code 703 = .ok (.iload 4, 2) := by decide +kernel
theorem kL_law_d705 : decode code 705 = .ok (.iconst 2, 1) := by decide +kernel
theorem kL_law_d706 : decode code 706 = .ok (.iadd, 1) := by decide +kernel
theorem kL_law_d707 : decode code 707 = .ok (.iaload, 1) := by decide +kernel
theorem kL_law_d708 : decode code 708 = .ok (.aload_n 0, 1) := by decide +kernel
theorem kL_law_d709 : decode code 709 = .ok (.iload 4, 2) := by decide +kernel
theorem kL_law_d711 : decode code 711 = .ok (.iconst 3, 1) := by decide +kernel
theorem kL_law_d712 : decode code 712 = .ok (.iadd, 1) := by decide +kernel
theorem kL_law_d713 : decode code 713 = .ok (.iaload, 1) := by decide +kernel
theorem kL_law_d714 : decode code 714 = .ok (.aload_n 0, 1) := by decide +kernel
theorem kL_law_d715 : decode code 715 = .ok (.iload 4, 2) := by decide +kernel
theorem kL_law_d717 : decode code 717 = .ok (.iconst 4, 1) := by decide +kernel
theorem kL_law_d718 : decode code 718 = .ok (.iadd, 1) := by decide +kernel
theorem kL_law_d719 : decode code 719 = .ok (.iaload, 1) := by decide +kernel
theorem kL_law_d720 : decode code 720 = .ok (.aload_n 0, 1) := by decide +kernel
theorem kL_law_d721 : decode code 721 = .ok (.iload 4, 2) := by decide +kernel
theorem kL_law_d723 : decode code 723 = .ok (.iconst 5, 1) := by decide +kernel
theorem kL_law_d724 : decode code 724 = .ok (.iadd, 1) := by decide +kernel
theorem kL_law_d725 : decode code 725 = .ok (.iaload, 1) := by decide +kernel
theorem kL_law_d726 : decode code 726 = .ok (.aload_n 0, 1) := by decide +kernel
theorem kL_law_d727 : decode code 727 = .ok (.iload 4, 2) := by decide +kernel
theorem kL_law_d729 : decode code 729 = .ok (.bipush 6, 2) := by decide +kernel
theorem kL_law_d731 : decode code 731 = .ok (.iadd, 1) := by decide +kernel
theorem kL_law_d732 : decode code 732 = .ok (.iaload, 1) := by decide +kernel
theorem kL_law_d733 : decode code 733 = .ok (.invokevirtual 127, 3) := by decide +kernel
theorem kL_law_d736 : decode code 736 = .ok (.aload_n 2, 1) := by decide +kernel
theorem kL_law_d737 : decode code 737 = .ok (.invokevirtual 97, 3) := by decide +kernel
theorem kL_law_d740 : decode code 740 = .ok (.iload 5, 2) := by decide +kernel
theorem kL_law_d742 : decode code 742 = .ok (.if_icmp .eq 5, 3) := by decide +kernel
theorem kL_law_d745 : decode code 745 = .ok (.iconst 0, 1) := by decide +kernel
theorem kL_law_d746 : decode code 746 = .ok (.ireturn, 1) := by decide +kernel
theorem kL_law_d747 : decode code 747 = .ok (.goto 952, 3) := by decide +kernel
theorem kL_law_d750 : decode code 750 = .ok (.aload_n 1, 1) := by decide +kernel
theorem kL_law_d751 : decode code 751 = .ok (.aload_n 0, 1) := by decide +kernel
theorem kL_law_d752 : decode code 752 = .ok (.iload 4, 2) := by decide +kernel
theorem kL_law_d754 : decode code 754 = .ok (.iconst 1, 1) := by decide +kernel
theorem kL_law_d755 : decode code 755 = .ok (.iadd, 1) := by decide +kernel
theorem kL_law_d756 : decode code 756 = .ok (.iaload, 1) := by decide +kernel
theorem kL_law_d757 : decode code 757 = .ok (.aload_n 0, 1) := by decide +kernel
theorem kL_law_d758 : decode code 758 = .ok (.iload 4, 2) := by decide +kernel
theorem kL_law_d760 : decode code 760 = .ok (.iconst 2, 1) := by decide +kernel
theorem kL_law_d761 : decode code 761 = .ok (.iadd, 1) := by decide +kernel
theorem kL_law_d762 : decode code 762 = .ok (.iaload, 1) := by decide +kernel
theorem kL_law_d763 : decode code 763 = .ok (.aload_n 3, 1) := by decide +kernel
theorem kL_law_d764 : decode code 764 = .ok (.invokestatic 128, 3) := by decide +kernel
theorem kL_law_d767 : decode code 767 = .ok (.istore 5, 2) := by decide +kernel
theorem kL_law_d769 : decode code 769 = .ok (.aload_n 2, 1) := by decide +kernel
theorem kL_law_d770 : decode code 770 = .ok (.aload_n 0, 1) := by decide +kernel
theorem kL_law_d771 : decode code 771 = .ok (.iload 4, 2) := by decide +kernel
theorem kL_law_d773 : decode code 773 = .ok (.iconst 1, 1) := by decide +kernel
theorem kL_law_d774 : decode code 774 = .ok (.iadd, 1) := by decide +kernel
theorem kL_law_d775 : decode code 775 = .ok (.iaload, 1) := by decide +kernel
theorem kL_law_d776 : decode code 776 = .ok (.aload_n 0, 1) := by decide +kernel
theorem kL_law_d777 : decode code 777 = .ok (.iload 4, 2) := by decide +kernel
theorem kL_law_d779 : decode code 779 = .ok (.iconst 2, 1) := by decide +kernel
theorem kL_law_d780 : decode code 780 = .ok (.iadd, 1) := by decide +kernel
theorem kL_law_d781 : decode code 781 = .ok (.iaload, 1) := by decide +kernel
theorem kL_law_d782 : decode code 782 = .ok (.invokevirtual 131, 3) := by decide +kernel
theorem kL_law_d785 : decode code 785 = .ok (.istore 6, 2) := by decide +kernel
theorem kL_law_d787 : decode code 787 = .ok (.aload_n 2, 1) := by decide +kernel
theorem kL_law_d788 : decode code 788 = .ok (.invokevirtual 97, 3) := by decide +kernel
theorem kL_law_d791 : decode code 791 = .ok (.iload 5, 2) := by decide +kernel
theorem kL_law_d793 : decode code 793 = .ok (.if_icmp .eq 5, 3) := by decide +kernel
theorem kL_law_d796 : decode code 796 = .ok (.iconst 0, 1) := by decide +kernel
theorem kL_law_d797 : decode code 797 = .ok (.ireturn, 1) := by decide +kernel
theorem kL_law_d798 : decode code 798 = .ok (.iload 5, 2) := by decide +kernel
theorem kL_law_d800 : decode code 800 = .ok (.ifCond .ne 15, 3) := by decide +kernel
theorem kL_law_d803 : decode code 803 = .ok (.aload_n 3, 1) := by decide +kernel
theorem kL_law_d804 : decode code 804 = .ok (.iconst 0, 1) := by decide +kernel
theorem kL_law_d805 : decode code 805 = .ok (.laload, 1) := by decide +kernel
theorem kL_law_d806 : decode code 806 = .ok (.iload 6, 2) := by decide +kernel
theorem kL_law_d808 : decode code 808 = .ok (.i2l, 1) := by decide +kernel
theorem kL_law_d809 : decode code 809 = .ok (.lcmp, 1) := by decide +kernel
theorem kL_law_d810 : decode code 810 = .ok (.ifCond .eq 5, 3) := by decide +kernel
theorem kL_law_d813 : decode code 813 = .ok (.iconst 0, 1) := by decide +kernel
theorem kL_law_d814 : decode code 814 = .ok (.ireturn, 1) := by decide +kernel
theorem kL_law_d815 : decode code 815 = .ok (.goto 884, 3) := by decide +kernel
theorem kL_law_d818 : decode code 818 = .ok (.aload_n 1, 1) := by decide +kernel
theorem kL_law_d819 : decode code 819 = .ok (.aload_n 0, 1) := by decide +kernel
theorem kL_law_d820 : decode code 820 = .ok (.iload 4, 2) := by decide +kernel
theorem kL_law_d822 : decode code 822 = .ok (.iconst 1, 1) := by decide +kernel
theorem kL_law_d823 : decode code 823 = .ok (.iadd, 1) := by decide +kernel
theorem kL_law_d824 : decode code 824 = .ok (.iaload, 1) := by decide +kernel
theorem kL_law_d825 : decode code 825 = .ok (.aload_n 0, 1) := by decide +kernel
theorem kL_law_d826 : decode code 826 = .ok (.iload 4, 2) := by decide +kernel
theorem kL_law_d828 : decode code 828 = .ok (.iconst 2, 1) := by decide +kernel
theorem kL_law_d829 : decode code 829 = .ok (.iadd, 1) := by decide +kernel
theorem kL_law_d830 : decode code 830 = .ok (.iaload, 1) := by decide +kernel
theorem kL_law_d831 : decode code 831 = .ok (.aload_n 3, 1) := by decide +kernel
theorem kL_law_d832 : decode code 832 = .ok (.invokestatic 132, 3) := by decide +kernel
theorem kL_law_d835 : decode code 835 = .ok (.istore 5, 2) := by decide +kernel
theorem kL_law_d837 : decode code 837 = .ok (.aload_n 2, 1) := by decide +kernel
theorem kL_law_d838 : decode code 838 = .ok (.aload_n 0, 1) := by decide +kernel
theorem kL_law_d839 : decode code 839 = .ok (.iload 4, 2) := by decide +kernel
theorem kL_law_d841 : decode code 841 = .ok (.iconst 1, 1) := by decide +kernel
theorem kL_law_d842 : decode code 842 = .ok (.iadd, 1) := by decide +kernel
theorem kL_law_d843 : decode code 843 = .ok (.iaload, 1) := by decide +kernel
theorem kL_law_d844 : decode code 844 = .ok (.aload_n 0, 1) := by decide +kernel
theorem kL_law_d845 : decode code 845 = .ok (.iload 4, 2) := by decide +kernel
theorem kL_law_d847 : decode code 847 = .ok (.iconst 2, 1) := by decide +kernel
theorem kL_law_d848 : decode code 848 = .ok (.iadd, 1) := by decide +kernel
theorem kL_law_d849 : decode code 849 = .ok (.iaload, 1) := by decide +kernel
theorem kL_law_d850 : decode code 850 = .ok (.invokevirtual 134, 3) := by decide +kernel
theorem kL_law_d853 : decode code 853 = .ok (.istore 6, 2) := by decide +kernel
theorem kL_law_d855 : decode code 855 = .ok (.aload_n 2, 1) := by decide +kernel
theorem kL_law_d856 : decode code 856 = .ok (.invokevirtual 97, 3) := by decide +kernel
theorem kL_law_d859 : decode code 859 = .ok (.iload 5, 2) := by decide +kernel
theorem kL_law_d861 : decode code 861 = .ok (.if_icmp .eq 5, 3) := by decide +kernel
theorem kL_law_d864 : decode code 864 = .ok (.iconst 0, 1) := by decide +kernel
theorem kL_law_d865 : decode code 865 = .ok (.ireturn, 1) := by decide +kernel
theorem kL_law_d866 : decode code 866 = .ok (.iload 5, 2) := by decide +kernel
theorem kL_law_d868 : decode code 868 = .ok (.ifCond .ne 15, 3) := by decide +kernel
theorem kL_law_d871 : decode code 871 = .ok (.aload_n 3, 1) := by decide +kernel
theorem kL_law_d872 : decode code 872 = .ok (.iconst 0, 1) := by decide +kernel
theorem kL_law_d873 : decode code 873 = .ok (.laload, 1) := by decide +kernel
theorem kL_law_d874 : decode code 874 = .ok (.iload 6, 2) := by decide +kernel
theorem kL_law_d876 : decode code 876 = .ok (.i2l, 1) := by decide +kernel
theorem kL_law_d877 : decode code 877 = .ok (.lcmp, 1) := by decide +kernel
theorem kL_law_d878 : decode code 878 = .ok (.ifCond .eq 5, 3) := by decide +kernel
theorem kL_law_d881 : decode code 881 = .ok (.iconst 0, 1) := by decide +kernel
theorem kL_law_d882 : decode code 882 = .ok (.ireturn, 1) := by decide +kernel
theorem kL_law_d883 : decode code 883 = .ok (.goto 816, 3) := by decide +kernel
theorem kL_law_d886 : decode code 886 = .ok (.aload_n 1, 1) := by decide +kernel
theorem kL_law_d887 : decode code 887 = .ok (.aload_n 0, 1) := by decide +kernel
theorem kL_law_d888 : decode code 888 = .ok (.iload 4, 2) := by decide +kernel
theorem kL_law_d890 : decode code 890 = .ok (.iconst 1, 1) := by decide +kernel
theorem kL_law_d891 : decode code 891 = .ok (.iadd, 1) := by decide +kernel
theorem kL_law_d892 : decode code 892 = .ok (.iaload, 1) := by decide +kernel
theorem kL_law_d893 : decode code 893 = .ok (.aload_n 0, 1) := by decide +kernel
theorem kL_law_d894 : decode code 894 = .ok (.iload 4, 2) := by decide +kernel
theorem kL_law_d896 : decode code 896 = .ok (.iconst 2, 1) := by decide +kernel
theorem kL_law_d897 : decode code 897 = .ok (.iadd, 1) := by decide +kernel
theorem kL_law_d898 : decode code 898 = .ok (.iaload, 1) := by decide +kernel
theorem kL_law_d899 : decode code 899 = .ok (.aload_n 0, 1) := by decide +kernel
theorem kL_law_d900 : decode code 900 = .ok (.iload 4, 2) := by decide +kernel
theorem kL_law_d902 : decode code 902 = .ok (.iconst 3, 1) := by decide +kernel
theorem kL_law_d903 : decode code 903 = .ok (.iadd, 1) := by decide +kernel
theorem kL_law_d904 : decode code 904 = .ok (.iaload, 1) := by decide +kernel
theorem kL_law_d905 : decode code 905 = .ok (.aload_n 3, 1) := by decide +kernel
theorem kL_law_d906 : decode code 906 = .ok (.invokestatic 135, 3) := by decide +kernel
theorem kL_law_d909 : decode code 909 = .ok (.istore 5, 2) := by decide +kernel
theorem kL_law_d911 : decode code 911 = .ok (.aload_n 2, 1) := by decide +kernel
theorem kL_law_d912 : decode code 912 = .ok (.aload_n 0, 1) := by decide +kernel
theorem kL_law_d913 : decode code 913 = .ok (.iload 4, 2) := by decide +kernel
theorem kL_law_d915 : decode code 915 = .ok (.iconst 1, 1) := by decide +kernel
theorem kL_law_d916 : decode code 916 = .ok (.iadd, 1) := by decide +kernel
theorem kL_law_d917 : decode code 917 = .ok (.iaload, 1) := by decide +kernel
theorem kL_law_d918 : decode code 918 = .ok (.aload_n 0, 1) := by decide +kernel
theorem kL_law_d919 : decode code 919 = .ok (.iload 4, 2) := by decide +kernel
theorem kL_law_d921 : decode code 921 = .ok (.iconst 2, 1) := by decide +kernel
theorem kL_law_d922 : decode code 922 = .ok (.iadd, 1) := by decide +kernel
theorem kL_law_d923 : decode code 923 = .ok (.iaload, 1) := by decide +kernel
theorem kL_law_d924 : decode code 924 = .ok (.aload_n 0, 1) := by decide +kernel
theorem kL_law_d925 : decode code 925 = .ok (.iload 4, 2) := by decide +kernel
theorem kL_law_d927 : decode code 927 = .ok (.iconst 3, 1) := by decide +kernel
theorem kL_law_d928 : decode code 928 = .ok (.iadd, 1) := by decide +kernel
theorem kL_law_d929 : decode code 929 = .ok (.iaload, 1) := by decide +kernel
theorem kL_law_d930 : decode code 930 = .ok (.invokevirtual 138, 3) := by decide +kernel
theorem kL_law_d933 : decode code 933 = .ok (.istore 6, 2) := by decide +kernel
theorem kL_law_d935 : decode code 935 = .ok (.aload_n 2, 1) := by decide +kernel
theorem kL_law_d936 : decode code 936 = .ok (.invokevirtual 97, 3) := by decide +kernel
theorem kL_law_d939 : decode code 939 = .ok (.iload 5, 2) := by decide +kernel
theorem kL_law_d941 : decode code 941 = .ok (.if_icmp .eq 5, 3) := by decide +kernel
theorem kL_law_d944 : decode code 944 = .ok (.iconst 0, 1) := by decide +kernel
theorem kL_law_d945 : decode code 945 = .ok (.ireturn, 1) := by decide +kernel
theorem kL_law_d946 : decode code 946 = .ok (.iload 5, 2) := by decide +kernel
theorem kL_law_d948 : decode code 948 = .ok (.ifCond .ne 22, 3) := by decide +kernel
theorem kL_law_d951 : decode code 951 = .ok (.aload_n 3, 1) := by decide +kernel
theorem kL_law_d952 : decode code 952 = .ok (.iconst 0, 1) := by decide +kernel
theorem kL_law_d953 : decode code 953 = .ok (.laload, 1) := by decide +kernel
theorem kL_law_d954 : decode code 954 = .ok (.iload 6, 2) := by decide +kernel
theorem kL_law_d956 : decode code 956 = .ok (.ifCond .eq 7, 3) := by decide +kernel
theorem kL_law_d959 : decode code 959 = .ok (.lconst 1, 1) := by decide +kernel
theorem kL_law_d960 : decode code 960 = .ok (.goto 4, 3) := by decide +kernel
theorem kL_law_d963 : decode code 963 = .ok (.lconst 0, 1) := by decide +kernel
theorem kL_law_d964 : decode code 964 = .ok (.lcmp, 1) := by decide +kernel
theorem kL_law_d965 : decode code 965 = .ok (.ifCond .eq 5, 3) := by decide +kernel
theorem kL_law_d968 : decode code 968 = .ok (.iconst 0, 1) := by decide +kernel
theorem kL_law_d969 : decode code 969 = .ok (.ireturn, 1) := by decide +kernel
theorem kL_law_d970 : decode code 970 = .ok (.goto 729, 3) := by decide +kernel
theorem kL_law_d973 : decode code 973 = .ok (.aload_n 1, 1) := by decide +kernel
theorem kL_law_d974 : decode code 974 = .ok (.aload_n 0, 1) := by decide +kernel
theorem kL_law_d975 : decode code 975 = .ok (.iload 4, 2) := by decide +kernel
theorem kL_law_d977 : decode code 977 = .ok (.iconst 1, 1) := by decide +kernel
theorem kL_law_d978 : decode code 978 = .ok (.iadd, 1) := by decide +kernel
theorem kL_law_d979 : decode code 979 = .ok (.iaload, 1) := by decide +kernel
theorem kL_law_d980 : decode code 980 = .ok (.aload_n 0, 1) := by decide +kernel
theorem kL_law_d981 : decode code 981 = .ok (.iload 4, 2) := by decide +kernel
theorem kL_law_d983 : decode code 983 = .ok (.iconst 2, 1) := by decide +kernel
theorem kL_law_d984 : decode code 984 = .ok (.iadd, 1) := by decide +kernel
theorem kL_law_d985 : decode code 985 = .ok (.iaload, 1) := by decide +kernel
theorem kL_law_d986 : decode code 986 = .ok (.aload_n 3, 1) := by decide +kernel
theorem kL_law_d987 : decode code 987 = .ok (.invokestatic 139, 3) := by decide +kernel
theorem kL_law_d990 : decode code 990 = .ok (.istore 5, 2) := by decide +kernel
theorem kL_law_d992 : decode code 992 = .ok (.aload_n 2, 1) := by decide +kernel
theorem kL_law_d993 : decode code 993 = .ok (.aload_n 0, 1) := by decide +kernel
theorem kL_law_d994 : decode code 994 = .ok (.iload 4, 2) := by decide +kernel
theorem kL_law_d996 : decode code 996 = .ok (.iconst 1, 1) := by decide +kernel
theorem kL_law_d997 : decode code 997 = .ok (.iadd, 1) := by decide +kernel
theorem kL_law_d998 : decode code 998 = .ok (.iaload, 1) := by decide +kernel
theorem kL_law_d999 : decode code 999 = .ok (.aload_n 0, 1) := by decide +kernel
theorem kL_law_d1000 : decode code 1000 = .ok (.iload 4, 2) := by decide +kernel
theorem kL_law_d1002 : decode code 1002 = .ok (.iconst 2, 1) := by decide +kernel
theorem kL_law_d1003 : decode code 1003 = .ok (.iadd, 1) := by decide +kernel
theorem kL_law_d1004 : decode code 1004 = .ok (.iaload, 1) := by decide +kernel
theorem kL_law_d1005 : decode code 1005 = .ok (.invokevirtual 141, 3) := by decide +kernel
theorem kL_law_d1008 : decode code 1008 = .ok (.istore 6, 2) := by decide +kernel
theorem kL_law_d1010 : decode code 1010 = .ok (.aload_n 2, 1) := by decide +kernel
theorem kL_law_d1011 : decode code 1011 = .ok (.invokevirtual 97, 3) := by decide +kernel
theorem kL_law_d1014 : decode code 1014 = .ok (.iload 5, 2) := by decide +kernel
theorem kL_law_d1016 : decode code 1016 = .ok (.if_icmp .eq 5, 3) := by decide +kernel
theorem kL_law_d1019 : decode code 1019 = .ok (.iconst 0, 1) := by decide +kernel
theorem kL_law_d1020 : decode code 1020 = .ok (.ireturn, 1) := by decide +kernel
theorem kL_law_d1021 : decode code 1021 = .ok (.iload 5, 2) := by decide +kernel
theorem kL_law_d1023 : decode code 1023 = .ok (.ifCond .ne 22, 3) := by decide +kernel
theorem kL_law_d1026 : decode code 1026 = .ok (.aload_n 3, 1) := by decide +kernel
theorem kL_law_d1027 : decode code 1027 = .ok (.iconst 0, 1) := by decide +kernel
theorem kL_law_d1028 : decode code 1028 = .ok (.laload, 1) := by decide +kernel
theorem kL_law_d1029 : decode code 1029 = .ok (.iload 6, 2) := by decide +kernel
theorem kL_law_d1031 : decode code 1031 = .ok (.ifCond .eq 7, 3) := by decide +kernel
theorem kL_law_d1034 : decode code 1034 = .ok (.lconst 1, 1) := by decide +kernel
theorem kL_law_d1035 : decode code 1035 = .ok (.goto 4, 3) := by decide +kernel
theorem kL_law_d1038 : decode code 1038 = .ok (.lconst 0, 1) := by decide +kernel
theorem kL_law_d1039 : decode code 1039 = .ok (.lcmp, 1) := by decide +kernel
theorem kL_law_d1040 : decode code 1040 = .ok (.ifCond .eq 5, 3) := by decide +kernel
theorem kL_law_d1043 : decode code 1043 = .ok (.iconst 0, 1) := by decide +kernel
theorem kL_law_d1044 : decode code 1044 = .ok (.ireturn, 1) := by decide +kernel
theorem kL_law_d1045 : decode code 1045 = .ok (.goto 654, 3) := by decide +kernel
theorem kL_law_d1048 : decode code 1048 = .ok (.aload_n 1, 1) := by decide +kernel
theorem kL_law_d1049 : decode code 1049 = .ok (.aload_n 0, 1) := by decide +kernel
theorem kL_law_d1050 : decode code 1050 = .ok (.iload 4, 2) := by decide +kernel
theorem kL_law_d1052 : decode code 1052 = .ok (.iconst 1, 1) := by decide +kernel
theorem kL_law_d1053 : decode code 1053 = .ok (.iadd, 1) := by decide +kernel
theorem kL_law_d1054 : decode code 1054 = .ok (.iaload, 1) := by decide +kernel
theorem kL_law_d1055 : decode code 1055 = .ok (.aload_n 0, 1) := by decide +kernel
theorem kL_law_d1056 : decode code 1056 = .ok (.iload 4, 2) := by decide +kernel
theorem kL_law_d1058 : decode code 1058 = .ok (.iconst 2, 1) := by decide +kernel
theorem kL_law_d1059 : decode code 1059 = .ok (.iadd, 1) := by decide +kernel
theorem kL_law_d1060 : decode code 1060 = .ok (.iaload, 1) := by decide +kernel
theorem kL_law_d1061 : decode code 1061 = .ok (.invokestatic 142, 3) := by decide +kernel
theorem kL_law_d1064 : decode code 1064 = .ok (.istore 5, 2) := by decide +kernel
theorem kL_law_d1066 : decode code 1066 = .ok (.aload_n 2, 1) := by decide +kernel
theorem kL_law_d1067 : decode code 1067 = .ok (.aload_n 0, 1) := by decide +kernel
theorem kL_law_d1068 : decode code 1068 = .ok (.iload 4, 2) := by decide +kernel
theorem kL_law_d1070 : decode code 1070 = .ok (.iconst 1, 1) := by decide +kernel
theorem kL_law_d1071 : decode code 1071 = .ok (.iadd, 1) := by decide +kernel
theorem kL_law_d1072 : decode code 1072 = .ok (.iaload, 1) := by decide +kernel
theorem kL_law_d1073 : decode code 1073 = .ok (.aload_n 0, 1) := by decide +kernel
theorem kL_law_d1074 : decode code 1074 = .ok (.iload 4, 2) := by decide +kernel
theorem kL_law_d1076 : decode code 1076 = .ok (.iconst 2, 1) := by decide +kernel
theorem kL_law_d1077 : decode code 1077 = .ok (.iadd, 1) := by decide +kernel
theorem kL_law_d1078 : decode code 1078 = .ok (.iaload, 1) := by decide +kernel
theorem kL_law_d1079 : decode code 1079 = .ok (.invokevirtual 144, 3) := by decide +kernel
theorem kL_law_d1082 : decode code 1082 = .ok (.aload_n 2, 1) := by decide +kernel
theorem kL_law_d1083 : decode code 1083 = .ok (.invokevirtual 97, 3) := by decide +kernel
theorem kL_law_d1086 : decode code 1086 = .ok (.iload 5, 2) := by decide +kernel
theorem kL_law_d1088 : decode code 1088 = .ok (.if_icmp .eq 5, 3) := by decide +kernel
theorem kL_law_d1091 : decode code 1091 = .ok (.iconst 0, 1) := by decide +kernel
theorem kL_law_d1092 : decode code 1092 = .ok (.ireturn, 1) := by decide +kernel
theorem kL_law_d1093 : decode code 1093 = .ok (.goto 606, 3) := by decide +kernel
theorem kL_law_d1096 : decode code 1096 = .ok (.aload_n 1, 1) := by decide +kernel
theorem kL_law_d1097 : decode code 1097 = .ok (.aload_n 0, 1) := by decide +kernel
theorem kL_law_d1098 : decode code 1098 = .ok (.iload 4, 2) := by decide +kernel
theorem kL_law_d1100 : decode code 1100 = .ok (.iconst 1, 1) := by decide +kernel
theorem kL_law_d1101 : decode code 1101 = .ok (.iadd, 1) := by decide +kernel
theorem kL_law_d1102 : decode code 1102 = .ok (.iaload, 1) := by decide +kernel
theorem kL_law_d1103 : decode code 1103 = .ok (.aload_n 0, 1) := by decide +kernel
theorem kL_law_d1104 : decode code 1104 = .ok (.iload 4, 2) := by decide +kernel
theorem kL_law_d1106 : decode code 1106 = .ok (.iconst 2, 1) := by decide +kernel
theorem kL_law_d1107 : decode code 1107 = .ok (.iadd, 1) := by decide +kernel
theorem kL_law_d1108 : decode code 1108 = .ok (.iaload, 1) := by decide +kernel
theorem kL_law_d1109 : decode code 1109 = .ok (.aload_n 3, 1) := by decide +kernel
theorem kL_law_d1110 : decode code 1110 = .ok (.invokestatic 145, 3) := by decide +kernel
theorem kL_law_d1113 : decode code 1113 = .ok (.istore 5, 2) := by decide +kernel
theorem kL_law_d1115 : decode code 1115 = .ok (.aload_n 2, 1) := by decide +kernel
theorem kL_law_d1116 : decode code 1116 = .ok (.aload_n 0, 1) := by decide +kernel
theorem kL_law_d1117 : decode code 1117 = .ok (.iload 4, 2) := by decide +kernel
theorem kL_law_d1119 : decode code 1119 = .ok (.iconst 1, 1) := by decide +kernel
theorem kL_law_d1120 : decode code 1120 = .ok (.iadd, 1) := by decide +kernel
theorem kL_law_d1121 : decode code 1121 = .ok (.iaload, 1) := by decide +kernel
theorem kL_law_d1122 : decode code 1122 = .ok (.aload_n 0, 1) := by decide +kernel
theorem kL_law_d1123 : decode code 1123 = .ok (.iload 4, 2) := by decide +kernel
theorem kL_law_d1125 : decode code 1125 = .ok (.iconst 2, 1) := by decide +kernel
theorem kL_law_d1126 : decode code 1126 = .ok (.iadd, 1) := by decide +kernel
theorem kL_law_d1127 : decode code 1127 = .ok (.iaload, 1) := by decide +kernel
theorem kL_law_d1128 : decode code 1128 = .ok (.invokevirtual 147, 3) := by decide +kernel
theorem kL_law_d1131 : decode code 1131 = .ok (.istore 6, 2) := by decide +kernel
theorem kL_law_d1133 : decode code 1133 = .ok (.aload_n 2, 1) := by decide +kernel
theorem kL_law_d1134 : decode code 1134 = .ok (.invokevirtual 97, 3) := by decide +kernel
theorem kL_law_d1137 : decode code 1137 = .ok (.iload 5, 2) := by decide +kernel
theorem kL_law_d1139 : decode code 1139 = .ok (.if_icmp .eq 5, 3) := by decide +kernel
theorem kL_law_d1142 : decode code 1142 = .ok (.iconst 0, 1) := by decide +kernel
theorem kL_law_d1143 : decode code 1143 = .ok (.ireturn, 1) := by decide +kernel
theorem kL_law_d1144 : decode code 1144 = .ok (.iload 5, 2) := by decide +kernel
theorem kL_law_d1146 : decode code 1146 = .ok (.ifCond .ne 15, 3) := by decide +kernel
theorem kL_law_d1149 : decode code 1149 = .ok (.aload_n 3, 1) := by decide +kernel
theorem kL_law_d1150 : decode code 1150 = .ok (.iconst 0, 1) := by decide +kernel
theorem kL_law_d1151 : decode code 1151 = .ok (.laload, 1) := by decide +kernel
theorem kL_law_d1152 : decode code 1152 = .ok (.iload 6, 2) := by decide +kernel
theorem kL_law_d1154 : decode code 1154 = .ok (.i2l, 1) := by decide +kernel
theorem kL_law_d1155 : decode code 1155 = .ok (.lcmp, 1) := by decide +kernel
theorem kL_law_d1156 : decode code 1156 = .ok (.ifCond .eq 5, 3) := by decide +kernel
theorem kL_law_d1159 : decode code 1159 = .ok (.iconst 0, 1) := by decide +kernel
theorem kL_law_d1160 : decode code 1160 = .ok (.ireturn, 1) := by decide +kernel
theorem kL_law_d1161 : decode code 1161 = .ok (.goto 538, 3) := by decide +kernel
theorem kL_law_d1164 : decode code 1164 = .ok (.aload_n 1, 1) := by decide +kernel
theorem kL_law_d1165 : decode code 1165 = .ok (.aload_n 0, 1) := by decide +kernel
theorem kL_law_d1166 : decode code 1166 = .ok (.iload 4, 2) := by decide +kernel
theorem kL_law_d1168 : decode code 1168 = .ok (.iconst 1, 1) := by decide +kernel
theorem kL_law_d1169 : decode code 1169 = .ok (.iadd, 1) := by decide +kernel
theorem kL_law_d1170 : decode code 1170 = .ok (.iaload, 1) := by decide +kernel
theorem kL_law_d1171 : decode code 1171 = .ok (.aload_n 0, 1) := by decide +kernel
theorem kL_law_d1172 : decode code 1172 = .ok (.iload 4, 2) := by decide +kernel
theorem kL_law_d1174 : decode code 1174 = .ok (.iconst 2, 1) := by decide +kernel
theorem kL_law_d1175 : decode code 1175 = .ok (.iadd, 1) := by decide +kernel
theorem kL_law_d1176 : decode code 1176 = .ok (.iaload, 1) := by decide +kernel
theorem kL_law_d1177 : decode code 1177 = .ok (.aload_n 3, 1) := by decide +kernel
theorem kL_law_d1178 : decode code 1178 = .ok (.invokestatic 148, 3) := by decide +kernel
theorem kL_law_d1181 : decode code 1181 = .ok (.istore 5, 2) := by decide +kernel
theorem kL_law_d1183 : decode code 1183 = .ok (.aload_n 2, 1) := by decide +kernel
theorem kL_law_d1184 : decode code 1184 = .ok (.aload_n 0, 1) := by decide +kernel
theorem kL_law_d1185 : decode code 1185 = .ok (.iload 4, 2) := by decide +kernel
theorem kL_law_d1187 : decode code 1187 = .ok (.iconst 1, 1) := by decide +kernel
theorem kL_law_d1188 : decode code 1188 = .ok (.iadd, 1) := by decide +kernel
theorem kL_law_d1189 : decode code 1189 = .ok (.iaload, 1) := by decide +kernel
theorem kL_law_d1190 : decode code 1190 = .ok (.aload_n 0, 1) := by decide +kernel
theorem kL_law_d1191 : decode code 1191 = .ok (.iload 4, 2) := by decide +kernel
theorem kL_law_d1193 : decode code 1193 = .ok (.iconst 2, 1) := by decide +kernel
theorem kL_law_d1194 : decode code 1194 = .ok (.iadd, 1) := by decide +kernel
theorem kL_law_d1195 : decode code 1195 = .ok (.iaload, 1) := by decide +kernel
theorem kL_law_d1196 : decode code 1196 = .ok (.invokevirtual 150, 3) := by decide +kernel
theorem kL_law_d1199 : decode code 1199 = .ok (.istore 6, 2) := by decide +kernel
theorem kL_law_d1201 : decode code 1201 = .ok (.aload_n 2, 1) := by decide +kernel
theorem kL_law_d1202 : decode code 1202 = .ok (.invokevirtual 97, 3) := by decide +kernel
theorem kL_law_d1205 : decode code 1205 = .ok (.iload 5, 2) := by decide +kernel
theorem kL_law_d1207 : decode code 1207 = .ok (.if_icmp .eq 5, 3) := by decide +kernel
theorem kL_law_d1210 : decode code 1210 = .ok (.iconst 0, 1) := by decide +kernel
theorem kL_law_d1211 : decode code 1211 = .ok (.ireturn, 1) := by decide +kernel
theorem kL_law_d1212 : decode code 1212 = .ok (.iload 5, 2) := by decide +kernel
theorem kL_law_d1214 : decode code 1214 = .ok (.ifCond .ne 15, 3) := by decide +kernel
theorem kL_law_d1217 : decode code 1217 = .ok (.aload_n 3, 1) := by decide +kernel
theorem kL_law_d1218 : decode code 1218 = .ok (.iconst 0, 1) := by decide +kernel
theorem kL_law_d1219 : decode code 1219 = .ok (.laload, 1) := by decide +kernel
theorem kL_law_d1220 : decode code 1220 = .ok (.iload 6, 2) := by decide +kernel
theorem kL_law_d1222 : decode code 1222 = .ok (.i2l, 1) := by decide +kernel
theorem kL_law_d1223 : decode code 1223 = .ok (.lcmp, 1) := by decide +kernel
theorem kL_law_d1224 : decode code 1224 = .ok (.ifCond .eq 5, 3) := by decide +kernel
theorem kL_law_d1227 : decode code 1227 = .ok (.iconst 0, 1) := by decide +kernel
theorem kL_law_d1228 : decode code 1228 = .ok (.ireturn, 1) := by decide +kernel
theorem kL_law_d1229 : decode code 1229 = .ok (.goto 470, 3) := by decide +kernel
theorem kL_law_d1232 : decode code 1232 = .ok (.aload_n 1, 1) := by decide +kernel
theorem kL_law_d1233 : decode code 1233 = .ok (.aload_n 0, 1) := by decide +kernel
theorem kL_law_d1234 : decode code 1234 = .ok (.iload 4, 2) := by decide +kernel
theorem kL_law_d1236 : decode code 1236 = .ok (.iconst 1, 1) := by decide +kernel
theorem kL_law_d1237 : decode code 1237 = .ok (.iadd, 1) := by decide +kernel
theorem kL_law_d1238 : decode code 1238 = .ok (.iaload, 1) := by decide +kernel
theorem kL_law_d1239 : decode code 1239 = .ok (.aload_n 0, 1) := by decide +kernel
theorem kL_law_d1240 : decode code 1240 = .ok (.iload 4, 2) := by decide +kernel
theorem kL_law_d1242 : decode code 1242 = .ok (.iconst 2, 1) := by decide +kernel
theorem kL_law_d1243 : decode code 1243 = .ok (.iadd, 1) := by decide +kernel
theorem kL_law_d1244 : decode code 1244 = .ok (.iaload, 1) := by decide +kernel
theorem kL_law_d1245 : decode code 1245 = .ok (.ifCond .eq 7, 3) := by decide +kernel
theorem kL_law_d1248 : decode code 1248 = .ok (.iconst 1, 1) := by decide +kernel
theorem kL_law_d1249 : decode code 1249 = .ok (.goto 4, 3) := by decide +kernel
theorem kL_law_d1252 : decode code 1252 = .ok (.iconst 0, 1) := by decide +kernel
theorem kL_law_d1253 : decode code 1253 = .ok (.aload_n 3, 1) := by decide +kernel
theorem kL_law_d1254 : decode code 1254 = .ok (.invokestatic 151, 3) := by decide +kernel
theorem kL_law_d1257 : decode code 1257 = .ok (.istore 5, 2) := by decide +kernel
theorem kL_law_d1259 : decode code 1259 = .ok (.aload_n 2, 1) := by decide +kernel
theorem kL_law_d1260 : decode code 1260 = .ok (.aload_n 0, 1) := by decide +kernel
theorem kL_law_d1261 : decode code 1261 = .ok (.iload 4, 2) := by decide +kernel
theorem kL_law_d1263 : decode code 1263 = .ok (.iconst 1, 1) := by decide +kernel
theorem kL_law_d1264 : decode code 1264 = .ok (.iadd, 1) := by decide +kernel
theorem kL_law_d1265 : decode code 1265 = .ok (.iaload, 1) := by decide +kernel
theorem kL_law_d1266 : decode code 1266 = .ok (.aload_n 0, 1) := by decide +kernel
theorem kL_law_d1267 : decode code 1267 = .ok (.iload 4, 2) := by decide +kernel
theorem kL_law_d1269 : decode code 1269 = .ok (.iconst 2, 1) := by decide +kernel
theorem kL_law_d1270 : decode code 1270 = .ok (.iadd, 1) := by decide +kernel
theorem kL_law_d1271 : decode code 1271 = .ok (.iaload, 1) := by decide +kernel
theorem kL_law_d1272 : decode code 1272 = .ok (.ifCond .eq 7, 3) := by decide +kernel
theorem kL_law_d1275 : decode code 1275 = .ok (.iconst 1, 1) := by decide +kernel
theorem kL_law_d1276 : decode code 1276 = .ok (.goto 4, 3) := by decide +kernel
theorem kL_law_d1279 : decode code 1279 = .ok (.iconst 0, 1) := by decide +kernel
theorem kL_law_d1280 : decode code 1280 = .ok (.invokevirtual 154, 3) := by decide +kernel
theorem kL_law_d1283 : decode code 1283 = .ok (.istore 6, 2) := by decide +kernel
theorem kL_law_d1285 : decode code 1285 = .ok (.aload_n 2, 1) := by decide +kernel
theorem kL_law_d1286 : decode code 1286 = .ok (.invokevirtual 97, 3) := by decide +kernel
theorem kL_law_d1289 : decode code 1289 = .ok (.iload 5, 2) := by decide +kernel
theorem kL_law_d1291 : decode code 1291 = .ok (.if_icmp .eq 5, 3) := by decide +kernel
theorem kL_law_d1294 : decode code 1294 = .ok (.iconst 0, 1) := by decide +kernel
theorem kL_law_d1295 : decode code 1295 = .ok (.ireturn, 1) := by decide +kernel
theorem kL_law_d1296 : decode code 1296 = .ok (.iload 5, 2) := by decide +kernel
theorem kL_law_d1298 : decode code 1298 = .ok (.ifCond .ne 15, 3) := by decide +kernel
theorem kL_law_d1301 : decode code 1301 = .ok (.aload_n 3, 1) := by decide +kernel
theorem kL_law_d1302 : decode code 1302 = .ok (.iconst 0, 1) := by decide +kernel
theorem kL_law_d1303 : decode code 1303 = .ok (.laload, 1) := by decide +kernel
theorem kL_law_d1304 : decode code 1304 = .ok (.iload 6, 2) := by decide +kernel
theorem kL_law_d1306 : decode code 1306 = .ok (.i2l, 1) := by decide +kernel
theorem kL_law_d1307 : decode code 1307 = .ok (.lcmp, 1) := by decide +kernel
theorem kL_law_d1308 : decode code 1308 = .ok (.ifCond .eq 5, 3) := by decide +kernel
theorem kL_law_d1311 : decode code 1311 = .ok (.iconst 0, 1) := by decide +kernel
theorem kL_law_d1312 : decode code 1312 = .ok (.ireturn, 1) := by decide +kernel
theorem kL_law_d1313 : decode code 1313 = .ok (.goto 386, 3) := by decide +kernel
theorem kL_law_d1316 : decode code 1316 = .ok (.aload_n 1, 1) := by decide +kernel
theorem kL_law_d1317 : decode code 1317 = .ok (.aload_n 0, 1) := by decide +kernel
theorem kL_law_d1318 : decode code 1318 = .ok (.iload 4, 2) := by decide +kernel
theorem kL_law_d1320 : decode code 1320 = .ok (.iconst 1, 1) := by decide +kernel
theorem kL_law_d1321 : decode code 1321 = .ok (.iadd, 1) := by decide +kernel
theorem kL_law_d1322 : decode code 1322 = .ok (.iaload, 1) := by decide +kernel
theorem kL_law_d1323 : decode code 1323 = .ok (.aload_n 0, 1) := by decide +kernel
theorem kL_law_d1324 : decode code 1324 = .ok (.iload 4, 2) := by decide +kernel
theorem kL_law_d1326 : decode code 1326 = .ok (.iconst 2, 1) := by decide +kernel
theorem kL_law_d1327 : decode code 1327 = .ok (.iadd, 1) := by decide +kernel
theorem kL_law_d1328 : decode code 1328 = .ok (.iaload, 1) := by decide +kernel
theorem kL_law_d1329 : decode code 1329 = .ok (.aload_n 0, 1) := by decide +kernel
theorem kL_law_d1330 : decode code 1330 = .ok (.iload 4, 2) := by decide +kernel
theorem kL_law_d1332 : decode code 1332 = .ok (.iconst 3, 1) := by decide +kernel
theorem kL_law_d1333 : decode code 1333 = .ok (.iadd, 1) := by decide +kernel
theorem kL_law_d1334 : decode code 1334 = .ok (.iaload, 1) := by decide +kernel
theorem kL_law_d1335 : decode code 1335 = .ok (.aload_n 3, 1) := by decide +kernel
theorem kL_law_d1336 : decode code 1336 = .ok (.invokestatic 155, 3) := by decide +kernel
theorem kL_law_d1339 : decode code 1339 = .ok (.istore 5, 2) := by decide +kernel
theorem kL_law_d1341 : decode code 1341 = .ok (.aload_n 2, 1) := by decide +kernel
theorem kL_law_d1342 : decode code 1342 = .ok (.aload_n 0, 1) := by decide +kernel
theorem kL_law_d1343 : decode code 1343 = .ok (.iload 4, 2) := by decide +kernel
theorem kL_law_d1345 : decode code 1345 = .ok (.iconst 1, 1) := by decide +kernel
theorem kL_law_d1346 : decode code 1346 = .ok (.iadd, 1) := by decide +kernel
theorem kL_law_d1347 : decode code 1347 = .ok (.iaload, 1) := by decide +kernel
theorem kL_law_d1348 : decode code 1348 = .ok (.aload_n 0, 1) := by decide +kernel
theorem kL_law_d1349 : decode code 1349 = .ok (.iload 4, 2) := by decide +kernel
theorem kL_law_d1351 : decode code 1351 = .ok (.iconst 2, 1) := by decide +kernel
theorem kL_law_d1352 : decode code 1352 = .ok (.iadd, 1) := by decide +kernel
theorem kL_law_d1353 : decode code 1353 = .ok (.iaload, 1) := by decide +kernel
theorem kL_law_d1354 : decode code 1354 = .ok (.aload_n 0, 1) := by decide +kernel
theorem kL_law_d1355 : decode code 1355 = .ok (.iload 4, 2) := by decide +kernel
theorem kL_law_d1357 : decode code 1357 = .ok (.iconst 3, 1) := by decide +kernel
theorem kL_law_d1358 : decode code 1358 = .ok (.iadd, 1) := by decide +kernel
theorem kL_law_d1359 : decode code 1359 = .ok (.iaload, 1) := by decide +kernel
theorem kL_law_d1360 : decode code 1360 = .ok (.invokevirtual 157, 3) := by decide +kernel
theorem kL_law_d1363 : decode code 1363 = .ok (.istore 6, 2) := by decide +kernel
theorem kL_law_d1365 : decode code 1365 = .ok (.aload_n 2, 1) := by decide +kernel
theorem kL_law_d1366 : decode code 1366 = .ok (.invokevirtual 97, 3) := by decide +kernel
theorem kL_law_d1369 : decode code 1369 = .ok (.iload 5, 2) := by decide +kernel
theorem kL_law_d1371 : decode code 1371 = .ok (.if_icmp .eq 5, 3) := by decide +kernel
theorem kL_law_d1374 : decode code 1374 = .ok (.iconst 0, 1) := by decide +kernel
theorem kL_law_d1375 : decode code 1375 = .ok (.ireturn, 1) := by decide +kernel
theorem kL_law_d1376 : decode code 1376 = .ok (.iload 5, 2) := by decide +kernel
theorem kL_law_d1378 : decode code 1378 = .ok (.ifCond .ne 15, 3) := by decide +kernel
theorem kL_law_d1381 : decode code 1381 = .ok (.aload_n 3, 1) := by decide +kernel
theorem kL_law_d1382 : decode code 1382 = .ok (.iconst 0, 1) := by decide +kernel
theorem kL_law_d1383 : decode code 1383 = .ok (.laload, 1) := by decide +kernel
theorem kL_law_d1384 : decode code 1384 = .ok (.iload 6, 2) := by decide +kernel
theorem kL_law_d1386 : decode code 1386 = .ok (.i2l, 1) := by decide +kernel
theorem kL_law_d1387 : decode code 1387 = .ok (.lcmp, 1) := by decide +kernel
theorem kL_law_d1388 : decode code 1388 = .ok (.ifCond .eq 5, 3) := by decide +kernel
theorem kL_law_d1391 : decode code 1391 = .ok (.iconst 0, 1) := by decide +kernel
theorem kL_law_d1392 : decode code 1392 = .ok (.ireturn, 1) := by decide +kernel
theorem kL_law_d1393 : decode code 1393 = .ok (.goto 306, 3) := by decide +kernel
theorem kL_law_d1396 : decode code 1396 = .ok (.aload_n 1, 1) := by decide +kernel
theorem kL_law_d1397 : decode code 1397 = .ok (.aload_n 0, 1) := by decide +kernel
theorem kL_law_d1398 : decode code 1398 = .ok (.iload 4, 2) := by decide +kernel
theorem kL_law_d1400 : decode code 1400 = .ok (.iconst 1, 1) := by decide +kernel
theorem kL_law_d1401 : decode code 1401 = .ok (.iadd, 1) := by decide +kernel
theorem kL_law_d1402 : decode code 1402 = .ok (.iaload, 1) := by decide +kernel
theorem kL_law_d1403 : decode code 1403 = .ok (.aload_n 0, 1) := by decide +kernel
theorem kL_law_d1404 : decode code 1404 = .ok (.iload 4, 2) := by decide +kernel
theorem kL_law_d1406 : decode code 1406 = .ok (.iconst 2, 1) := by decide +kernel
theorem kL_law_d1407 : decode code 1407 = .ok (.iadd, 1) := by decide +kernel
theorem kL_law_d1408 : decode code 1408 = .ok (.iaload, 1) := by decide +kernel
theorem kL_law_d1409 : decode code 1409 = .ok (.aload_n 0, 1) := by decide +kernel
theorem kL_law_d1410 : decode code 1410 = .ok (.iload 4, 2) := by decide +kernel
theorem kL_law_d1412 : decode code 1412 = .ok (.iconst 3, 1) := by decide +kernel
theorem kL_law_d1413 : decode code 1413 = .ok (.iadd, 1) := by decide +kernel
theorem kL_law_d1414 : decode code 1414 = .ok (.iaload, 1) := by decide +kernel
theorem kL_law_d1415 : decode code 1415 = .ok (.aload_n 0, 1) := by decide +kernel
theorem kL_law_d1416 : decode code 1416 = .ok (.iload 4, 2) := by decide +kernel
theorem kL_law_d1418 : decode code 1418 = .ok (.iconst 4, 1) := by decide +kernel
theorem kL_law_d1419 : decode code 1419 = .ok (.iadd, 1) := by decide +kernel
theorem kL_law_d1420 : decode code 1420 = .ok (.iaload, 1) := by decide +kernel
theorem kL_law_d1421 : decode code 1421 = .ok (.ifCond .eq 7, 3) := by decide +kernel
theorem kL_law_d1424 : decode code 1424 = .ok (.iconst 1, 1) := by decide +kernel
theorem kL_law_d1425 : decode code 1425 = .ok (.goto 4, 3) := by decide +kernel
theorem kL_law_d1428 : decode code 1428 = .ok (.iconst 0, 1) := by decide +kernel
theorem kL_law_d1429 : decode code 1429 = .ok (.aload_n 3, 1) := by decide +kernel
theorem kL_law_d1430 : decode code 1430 = .ok (.invokestatic 158, 3) := by decide +kernel
theorem kL_law_d1433 : decode code 1433 = .ok (.istore 5, 2) := by decide +kernel
theorem kL_law_d1435 : decode code 1435 = .ok (.aload_n 2, 1) := by decide +kernel
theorem kL_law_d1436 : decode code 1436 = .ok (.aload_n 0, 1) := by decide +kernel
theorem kL_law_d1437 : decode code 1437 = .ok (.iload 4, 2) := by decide +kernel
theorem kL_law_d1439 : decode code 1439 = .ok (.iconst 1, 1) := by decide +kernel
theorem kL_law_d1440 : decode code 1440 = .ok (.iadd, 1) := by decide +kernel
theorem kL_law_d1441 : decode code 1441 = .ok (.iaload, 1) := by decide +kernel
theorem kL_law_d1442 : decode code 1442 = .ok (.aload_n 0, 1) := by decide +kernel
theorem kL_law_d1443 : decode code 1443 = .ok (.iload 4, 2) := by decide +kernel
theorem kL_law_d1445 : decode code 1445 = .ok (.iconst 2, 1) := by decide +kernel
theorem kL_law_d1446 : decode code 1446 = .ok (.iadd, 1) := by decide +kernel
theorem kL_law_d1447 : decode code 1447 = .ok (.iaload, 1) := by decide +kernel
theorem kL_law_d1448 : decode code 1448 = .ok (.aload_n 0, 1) := by decide +kernel
theorem kL_law_d1449 : decode code 1449 = .ok (.iload 4, 2) := by decide +kernel
theorem kL_law_d1451 : decode code 1451 = .ok (.iconst 3, 1) := by decide +kernel
theorem kL_law_d1452 : decode code 1452 = .ok (.iadd, 1) := by decide +kernel
theorem kL_law_d1453 : decode code 1453 = .ok (.iaload, 1) := by decide +kernel
theorem kL_law_d1454 : decode code 1454 = .ok (.aload_n 0, 1) := by decide +kernel
theorem kL_law_d1455 : decode code 1455 = .ok (.iload 4, 2) := by decide +kernel
theorem kL_law_d1457 : decode code 1457 = .ok (.iconst 4, 1) := by decide +kernel
theorem kL_law_d1458 : decode code 1458 = .ok (.iadd, 1) := by decide +kernel
theorem kL_law_d1459 : decode code 1459 = .ok (.iaload, 1) := by decide +kernel
theorem kL_law_d1460 : decode code 1460 = .ok (.ifCond .eq 7, 3) := by decide +kernel
theorem kL_law_d1463 : decode code 1463 = .ok (.iconst 1, 1) := by decide +kernel
theorem kL_law_d1464 : decode code 1464 = .ok (.goto 4, 3) := by decide +kernel
theorem kL_law_d1467 : decode code 1467 = .ok (.iconst 0, 1) := by decide +kernel
theorem kL_law_d1468 : decode code 1468 = .ok (.invokevirtual 161, 3) := by decide +kernel
theorem kL_law_d1471 : decode code 1471 = .ok (.istore 6, 2) := by decide +kernel
theorem kL_law_d1473 : decode code 1473 = .ok (.aload_n 2, 1) := by decide +kernel
theorem kL_law_d1474 : decode code 1474 = .ok (.invokevirtual 97, 3) := by decide +kernel
theorem kL_law_d1477 : decode code 1477 = .ok (.iload 5, 2) := by decide +kernel
theorem kL_law_d1479 : decode code 1479 = .ok (.if_icmp .eq 5, 3) := by decide +kernel
theorem kL_law_d1482 : decode code 1482 = .ok (.iconst 0, 1) := by decide +kernel
theorem kL_law_d1483 : decode code 1483 = .ok (.ireturn, 1) := by decide +kernel
theorem kL_law_d1484 : decode code 1484 = .ok (.iload 5, 2) := by decide +kernel
theorem kL_law_d1486 : decode code 1486 = .ok (.ifCond .ne 15, 3) := by decide +kernel
theorem kL_law_d1489 : decode code 1489 = .ok (.aload_n 3, 1) := by decide +kernel
theorem kL_law_d1490 : decode code 1490 = .ok (.iconst 0, 1) := by decide +kernel
theorem kL_law_d1491 : decode code 1491 = .ok (.laload, 1) := by decide +kernel
theorem kL_law_d1492 : decode code 1492 = .ok (.iload 6, 2) := by decide +kernel
theorem kL_law_d1494 : decode code 1494 = .ok (.i2l, 1) := by decide +kernel
theorem kL_law_d1495 : decode code 1495 = .ok (.lcmp, 1) := by decide +kernel
theorem kL_law_d1496 : decode code 1496 = .ok (.ifCond .eq 5, 3) := by decide +kernel
theorem kL_law_d1499 : decode code 1499 = .ok (.iconst 0, 1) := by decide +kernel
theorem kL_law_d1500 : decode code 1500 = .ok (.ireturn, 1) := by decide +kernel
theorem kL_law_d1501 : decode code 1501 = .ok (.goto 198, 3) := by decide +kernel
theorem kL_law_d1504 : decode code 1504 = .ok (.aload_n 1, 1) := by decide +kernel
theorem kL_law_d1505 : decode code 1505 = .ok (.aload_n 0, 1) := by decide +kernel
theorem kL_law_d1506 : decode code 1506 = .ok (.iload 4, 2) := by decide +kernel
theorem kL_law_d1508 : decode code 1508 = .ok (.iconst 1, 1) := by decide +kernel
theorem kL_law_d1509 : decode code 1509 = .ok (.iadd, 1) := by decide +kernel
theorem kL_law_d1510 : decode code 1510 = .ok (.iaload, 1) := by decide +kernel
theorem kL_law_d1511 : decode code 1511 = .ok (.aload_n 0, 1) := by decide +kernel
theorem kL_law_d1512 : decode code 1512 = .ok (.iload 4, 2) := by decide +kernel
theorem kL_law_d1514 : decode code 1514 = .ok (.iconst 2, 1) := by decide +kernel
theorem kL_law_d1515 : decode code 1515 = .ok (.iadd, 1) := by decide +kernel
theorem kL_law_d1516 : decode code 1516 = .ok (.iaload, 1) := by decide +kernel
theorem kL_law_d1517 : decode code 1517 = .ok (.aload_n 0, 1) := by decide +kernel
theorem kL_law_d1518 : decode code 1518 = .ok (.iload 4, 2) := by decide +kernel
theorem kL_law_d1520 : decode code 1520 = .ok (.iconst 3, 1) := by decide +kernel
theorem kL_law_d1521 : decode code 1521 = .ok (.iadd, 1) := by decide +kernel
theorem kL_law_d1522 : decode code 1522 = .ok (.iaload, 1) := by decide +kernel
theorem kL_law_d1523 : decode code 1523 = .ok (.aload_n 0, 1) := by decide +kernel
theorem kL_law_d1524 : decode code 1524 = .ok (.iload 4, 2) := by decide +kernel
theorem kL_law_d1526 : decode code 1526 = .ok (.iconst 4, 1) := by decide +kernel
theorem kL_law_d1527 : decode code 1527 = .ok (.iadd, 1) := by decide +kernel
theorem kL_law_d1528 : decode code 1528 = .ok (.iaload, 1) := by decide +kernel
theorem kL_law_d1529 : decode code 1529 = .ok (.ifCond .eq 7, 3) := by decide +kernel
theorem kL_law_d1532 : decode code 1532 = .ok (.iconst 1, 1) := by decide +kernel
theorem kL_law_d1533 : decode code 1533 = .ok (.goto 4, 3) := by decide +kernel
theorem kL_law_d1536 : decode code 1536 = .ok (.iconst 0, 1) := by decide +kernel
theorem kL_law_d1537 : decode code 1537 = .ok (.aload_n 0, 1) := by decide +kernel
theorem kL_law_d1538 : decode code 1538 = .ok (.iload 4, 2) := by decide +kernel
theorem kL_law_d1540 : decode code 1540 = .ok (.iconst 5, 1) := by decide +kernel
theorem kL_law_d1541 : decode code 1541 = .ok (.iadd, 1) := by decide +kernel
theorem kL_law_d1542 : decode code 1542 = .ok (.iaload, 1) := by decide +kernel
theorem kL_law_d1543 : decode code 1543 = .ok (.aload_n 3, 1) := by decide +kernel
theorem kL_law_d1544 : decode code 1544 = .ok (.invokestatic 162, 3) := by decide +kernel
theorem kL_law_d1547 : decode code 1547 = .ok (.istore 5, 2) := by decide +kernel
theorem kL_law_d1549 : decode code 1549 = .ok (.aload_n 2, 1) := by decide +kernel
theorem kL_law_d1550 : decode code 1550 = .ok (.aload_n 0, 1) := by decide +kernel
theorem kL_law_d1551 : decode code 1551 = .ok (.iload 4, 2) := by decide +kernel
theorem kL_law_d1553 : decode code 1553 = .ok (.iconst 1, 1) := by decide +kernel
theorem kL_law_d1554 : decode code 1554 = .ok (.iadd, 1) := by decide +kernel
theorem kL_law_d1555 : decode code 1555 = .ok (.iaload, 1) := by decide +kernel
theorem kL_law_d1556 : decode code 1556 = .ok (.aload_n 0, 1) := by decide +kernel
theorem kL_law_d1557 : decode code 1557 = .ok (.iload 4, 2) := by decide +kernel
theorem kL_law_d1559 : decode code 1559 = .ok (.iconst 2, 1) := by decide +kernel
theorem kL_law_d1560 : decode code 1560 = .ok (.iadd, 1) := by decide +kernel
theorem kL_law_d1561 : decode code 1561 = .ok (.iaload, 1) := by decide +kernel
theorem kL_law_d1562 : decode code 1562 = .ok (.aload_n 0, 1) := by decide +kernel
theorem kL_law_d1563 : decode code 1563 = .ok (.iload 4, 2) := by decide +kernel
theorem kL_law_d1565 : decode code 1565 = .ok (.iconst 3, 1) := by decide +kernel
theorem kL_law_d1566 : decode code 1566 = .ok (.iadd, 1) := by decide +kernel
theorem kL_law_d1567 : decode code 1567 = .ok (.iaload, 1) := by decide +kernel
theorem kL_law_d1568 : decode code 1568 = .ok (.aload_n 0, 1) := by decide +kernel
theorem kL_law_d1569 : decode code 1569 = .ok (.iload 4, 2) := by decide +kernel
theorem kL_law_d1571 : decode code 1571 = .ok (.iconst 4, 1) := by decide +kernel
theorem kL_law_d1572 : decode code 1572 = .ok (.iadd, 1) := by decide +kernel
theorem kL_law_d1573 : decode code 1573 = .ok (.iaload, 1) := by decide +kernel
theorem kL_law_d1574 : decode code 1574 = .ok (.ifCond .eq 7, 3) := by decide +kernel
theorem kL_law_d1577 : decode code 1577 = .ok (.iconst 1, 1) := by decide +kernel
theorem kL_law_d1578 : decode code 1578 = .ok (.goto 4, 3) := by decide +kernel
theorem kL_law_d1581 : decode code 1581 = .ok (.iconst 0, 1) := by decide +kernel
theorem kL_law_d1582 : decode code 1582 = .ok (.aload_n 0, 1) := by decide +kernel
theorem kL_law_d1583 : decode code 1583 = .ok (.iload 4, 2) := by decide +kernel
theorem kL_law_d1585 : decode code 1585 = .ok (.iconst 5, 1) := by decide +kernel
theorem kL_law_d1586 : decode code 1586 = .ok (.iadd, 1) := by decide +kernel
theorem kL_law_d1587 : decode code 1587 = .ok (.iaload, 1) := by decide +kernel
theorem kL_law_d1588 : decode code 1588 = .ok (.invokevirtual 165, 3) := by decide +kernel
theorem kL_law_d1591 : decode code 1591 = .ok (.istore 6, 2) := by decide +kernel
theorem kL_law_d1593 : decode code 1593 = .ok (.aload_n 2, 1) := by decide +kernel
theorem kL_law_d1594 : decode code 1594 = .ok (.invokevirtual 97, 3) := by decide +kernel
theorem kL_law_d1597 : decode code 1597 = .ok (.iload 5, 2) := by decide +kernel
theorem kL_law_d1599 : decode code 1599 = .ok (.if_icmp .eq 5, 3) := by decide +kernel
theorem kL_law_d1602 : decode code 1602 = .ok (.iconst 0, 1) := by decide +kernel
theorem kL_law_d1603 : decode code 1603 = .ok (.ireturn, 1) := by decide +kernel
theorem kL_law_d1604 : decode code 1604 = .ok (.iload 5, 2) := by decide +kernel
theorem kL_law_d1606 : decode code 1606 = .ok (.ifCond .ne 15, 3) := by decide +kernel
theorem kL_law_d1609 : decode code 1609 = .ok (.aload_n 3, 1) := by decide +kernel
theorem kL_law_d1610 : decode code 1610 = .ok (.iconst 0, 1) := by decide +kernel
theorem kL_law_d1611 : decode code 1611 = .ok (.laload, 1) := by decide +kernel
theorem kL_law_d1612 : decode code 1612 = .ok (.iload 6, 2) := by decide +kernel
theorem kL_law_d1614 : decode code 1614 = .ok (.i2l, 1) := by decide +kernel
theorem kL_law_d1615 : decode code 1615 = .ok (.lcmp, 1) := by decide +kernel
theorem kL_law_d1616 : decode code 1616 = .ok (.ifCond .eq 5, 3) := by decide +kernel
theorem kL_law_d1619 : decode code 1619 = .ok (.iconst 0, 1) := by decide +kernel
theorem kL_law_d1620 : decode code 1620 = .ok (.ireturn, 1) := by decide +kernel
theorem kL_law_d1621 : decode code 1621 = .ok (.goto 78, 3) := by decide +kernel
theorem kL_law_d1624 : decode code 1624 = .ok (.aload_n 1, 1) := by decide +kernel
theorem kL_law_d1625 : decode code 1625 = .ok (.aload_n 0, 1) := by decide +kernel
theorem kL_law_d1626 : decode code 1626 = .ok (.iload 4, 2) := by decide +kernel
theorem kL_law_d1628 : decode code 1628 = .ok (.iconst 1, 1) := by decide +kernel
theorem kL_law_d1629 : decode code 1629 = .ok (.iadd, 1) := by decide +kernel
theorem kL_law_d1630 : decode code 1630 = .ok (.iaload, 1) := by decide +kernel
theorem kL_law_d1631 : decode code 1631 = .ok (.aload_n 0, 1) := by decide +kernel
theorem kL_law_d1632 : decode code 1632 = .ok (.iload 4, 2) := by decide +kernel
theorem kL_law_d1634 : decode code 1634 = .ok (.iconst 2, 1) := by decide +kernel
theorem kL_law_d1635 : decode code 1635 = .ok (.iadd, 1) := by decide +kernel
theorem kL_law_d1636 : decode code 1636 = .ok (.iaload, 1) := by decide +kernel
theorem kL_law_d1637 : decode code 1637 = .ok (.aload_n 3, 1) := by decide +kernel
theorem kL_law_d1638 : decode code 1638 = .ok (.invokestatic 166, 3) := by decide +kernel
theorem kL_law_d1641 : decode code 1641 = .ok (.istore 5, 2) := by decide +kernel
theorem kL_law_d1643 : decode code 1643 = .ok (.aload_n 2, 1) := by decide +kernel
theorem kL_law_d1644 : decode code 1644 = .ok (.aload_n 0, 1) := by decide +kernel
theorem kL_law_d1645 : decode code 1645 = .ok (.iload 4, 2) := by decide +kernel
theorem kL_law_d1647 : decode code 1647 = .ok (.iconst 1, 1) := by decide +kernel
theorem kL_law_d1648 : decode code 1648 = .ok (.iadd, 1) := by decide +kernel
theorem kL_law_d1649 : decode code 1649 = .ok (.iaload, 1) := by decide +kernel
theorem kL_law_d1650 : decode code 1650 = .ok (.aload_n 0, 1) := by decide +kernel
theorem kL_law_d1651 : decode code 1651 = .ok (.iload 4, 2) := by decide +kernel
theorem kL_law_d1653 : decode code 1653 = .ok (.iconst 2, 1) := by decide +kernel
theorem kL_law_d1654 : decode code 1654 = .ok (.iadd, 1) := by decide +kernel
theorem kL_law_d1655 : decode code 1655 = .ok (.iaload, 1) := by decide +kernel
theorem kL_law_d1656 : decode code 1656 = .ok (.invokevirtual 168, 3) := by decide +kernel
theorem kL_law_d1659 : decode code 1659 = .ok (.istore 6, 2) := by decide +kernel
theorem kL_law_d1661 : decode code 1661 = .ok (.aload_n 2, 1) := by decide +kernel
theorem kL_law_d1662 : decode code 1662 = .ok (.invokevirtual 97, 3) := by decide +kernel
theorem kL_law_d1665 : decode code 1665 = .ok (.iload 5, 2) := by decide +kernel
theorem kL_law_d1667 : decode code 1667 = .ok (.if_icmp .eq 5, 3) := by decide +kernel
theorem kL_law_d1670 : decode code 1670 = .ok (.iconst 0, 1) := by decide +kernel
theorem kL_law_d1671 : decode code 1671 = .ok (.ireturn, 1) := by decide +kernel
theorem kL_law_d1672 : decode code 1672 = .ok (.iload 5, 2) := by decide +kernel
theorem kL_law_d1674 : decode code 1674 = .ok (.ifCond .ne 22, 3) := by decide +kernel
theorem kL_law_d1677 : decode code 1677 = .ok (.aload_n 3, 1) := by decide +kernel
theorem kL_law_d1678 : decode code 1678 = .ok (.iconst 0, 1) := by decide +kernel
theorem kL_law_d1679 : decode code 1679 = .ok (.laload, 1) := by decide +kernel
theorem kL_law_d1680 : decode code 1680 = .ok (.iload 6, 2) := by decide +kernel
theorem kL_law_d1682 : decode code 1682 = .ok (.ifCond .eq 7, 3) := by decide +kernel
theorem kL_law_d1685 : decode code 1685 = .ok (.lconst 1, 1) := by decide +kernel
theorem kL_law_d1686 : decode code 1686 = .ok (.goto 4, 3) := by decide +kernel
theorem kL_law_d1689 : decode code 1689 = .ok (.lconst 0, 1) := by decide +kernel
theorem kL_law_d1690 : decode code 1690 = .ok (.lcmp, 1) := by decide +kernel
theorem kL_law_d1691 : decode code 1691 = .ok (.ifCond .eq 5, 3) := by decide +kernel
theorem kL_law_d1694 : decode code 1694 = .ok (.iconst 0, 1) := by decide +kernel
theorem kL_law_d1695 : decode code 1695 = .ok (.ireturn, 1) := by decide +kernel
theorem kL_law_d1696 : decode code 1696 = .ok (.goto 3, 3) := by decide +kernel
theorem kL_law_d1699 : decode code 1699 = .ok (.iinc 4 8, 3) := by decide +kernel
theorem kL_law_d1702 : decode code 1702 = .ok (.goto (-1679), 3) := by decide +kernel
theorem kL_law_d1705 : decode code 1705 = .ok (.iconst 1, 1) := by decide +kernel
theorem kL_law_d1706 : decode code 1706 = .ok (.ireturn, 1) := by decide +kernel
theorem kL_law_d40 : decode code 40 = .ok (.tableswitch 1659 0 19 #[96, 156, 308, 356, 444, 504, 552, 612, 710, 778, 846, 933, 1008, 1056, 1124, 1192, 1276, 1356, 1464, 1584], 96) := by decide +kernel
