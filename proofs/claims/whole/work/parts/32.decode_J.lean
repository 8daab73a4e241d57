theorem kJM_max_d0 : decode prog_22_method_65_code 0 = .ok (.iload_n 0, 1) := by decide +kernel
theorem kJM_max_d1 : decode prog_22_method_65_code 1 = .ok (.iload_n 1, 1) := by decide +kernel
theorem kJM_max_d2 : decode prog_22_method_65_code 2 = .ok (.if_icmp .lt 7, 3) := by decide +kernel
theorem kJM_max_d5 : decode prog_22_method_65_code 5 = .ok (.iload_n 0, 1) := by decide +kernel
theorem kJM_max_d6 : decode prog_22_method_65_code 6 = .ok (.goto 4, 3) := by decide +kernel
theorem kJM_max_d9 : decode prog_22_method_65_code 9 = .ok (.iload_n 1, 1) := by decide +kernel
theorem kJM_max_d10 : decode prog_22_method_65_code 10 = .ok (.ireturn, 1) := by decide +kernel
theorem kJM_abs_d0 : decode prog_22_method_61_code 0 = .ok (.lload_n 0, 1) := by decide +kernel
theorem kJM_abs_d1 : decode prog_22_method_61_code 1 = .ok (.lconst 0, 1) := by decide +kernel
theorem kJM_abs_d2 : decode prog_22_method_61_code 2 = .ok (.lcmp, 1) := by decide +kernel
theorem kJM_abs_d3 : decode prog_22_method_61_code 3 = .ok (.ifCond .ge 8, 3) := by decide +kernel
theorem kJM_abs_d6 : decode prog_22_method_61_code 6 = .ok (.lload_n 0, 1) := by decide +kernel
theorem kJM_abs_d7 : decode prog_22_method_61_code 7 = .ok (.lneg, 1) := by decide +kernel
theorem kJM_abs_d8 : decode prog_22_method_61_code 8 = .ok (.goto 4, 3) := by decide +kernel
theorem kJM_abs_d11 : decode prog_22_method_61_code 11 = .ok (.lload_n 0, 1) := by decide +kernel
theorem kJM_abs_d12 : decode prog_22_method_61_code 12 = .ok (.lreturn, 1) := by decide +kernel
theorem kJA_fill_d0 : decode prog_31_method_104_code 0 = .ok (.aload_n 0, 1) := by decide +kernel
theorem kJA_fill_d1 : decode prog_31_method_104_code 1 = .ok (.arraylength, 1) := by decide +kernel
theorem kJA_fill_d2 : decode prog_31_method_104_code 2 = .ok (.iload_n 1, 1) := by decide +kernel
theorem kJA_fill_d3 : decode prog_31_method_104_code 3 = .ok (.iload_n 2, 1) := by decide +kernel
theorem kJA_fill_d4 : decode prog_31_method_104_code 4 = .ok (.invokestatic 13, 3) := by decide +kernel
theorem kJA_fill_d7 : decode prog_31_method_104_code 7 = .ok (.iload_n 1, 1) := by decide +kernel
theorem kJA_fill_d8 : decode prog_31_method_104_code 8 = .ok (.istore 4, 2) := by decide +kernel
theorem kJA_fill_d10 : decode prog_31_method_104_code 10 = .ok (.iload 4, 2) := by decide +kernel
theorem kJA_fill_d12 : decode prog_31_method_104_code 12 = .ok (.iload_n 2, 1) := by decide +kernel
theorem kJA_fill_d13 : decode prog_31_method_104_code 13 = .ok (.if_icmp .ge 14, 3) := by decide +kernel
theorem kJA_fill_d16 : decode prog_31_method_104_code 16 = .ok (.aload_n 0, 1) := by decide +kernel
theorem kJA_fill_d17 : decode prog_31_method_104_code 17 = .ok (.iload 4, 2) := by decide +kernel
theorem kJA_fill_d19 : decode prog_31_method_104_code 19 = .ok (.iload_n 3, 1) := by decide +kernel
theorem kJA_fill_d20 : decode prog_31_method_104_code 20 = .ok (.iastore, 1) := by decide +kernel
theorem kJA_fill_d21 : decode prog_31_method_104_code 21 = .ok (.iinc 4 1, 3) := by decide +kernel
theorem kJA_fill_d24 : decode prog_31_method_104_code 24 = .ok (.goto (-14), 3) := by decide +kernel
theorem kJA_fill_d27 : decode prog_31_method_104_code 27 = .ok (.return_, 1) := by decide +kernel
theorem kvJA_JA_rangeCheck {G : jg} (h : kG G) : jj_cs G "java/util/Arrays" 13 kJA_rangeCheck 3 := ⟨Or.inl (kG_w h kI3 182 rfl rfl), kG_w h kI3 183 rfl rfl, kG_w h kI1 14 rfl rfl, ⟨by decide +kernel, by decide +kernel⟩, by decide +kernel, kJA_rangeCheck_ok h⟩
theorem kJA_rangeCheck_d0 : decode prog_31_method_30_code 0 = .ok (.iload_n 1, 1) := by decide +kernel
theorem kJA_rangeCheck_d1 : decode prog_31_method_30_code 1 = .ok (.iload_n 2, 1) := by decide +kernel
theorem kJA_rangeCheck_d2 : decode prog_31_method_30_code 2 = .ok (.if_icmp .le 44, 3) := by decide +kernel
theorem kJA_rangeCheck_d5 : decode prog_31_method_30_code 5 = .ok (.new 43, 3) := by decide +kernel
theorem kJA_rangeCheck_d8 : decode prog_31_method_30_code 8 = .ok (.dup, 1) := by decide +kernel
theorem kJA_rangeCheck_d9 : decode prog_31_method_30_code 9 = .ok (.new 45, 3) := by decide +kernel
theorem kJA_rangeCheck_d12 : decode prog_31_method_30_code 12 = .ok (.dup, 1) := by decide +kernel
theorem kJA_rangeCheck_d13 : decode prog_31_method_30_code 13 = .ok (.invokespecial 47, 3) := by decide +kernel
theorem kJA_rangeCheck_d16 : decode prog_31_method_30_code 16 = .ok (.ldc 48, 2) := by decide +kernel
theorem kJA_rangeCheck_d18 : decode prog_31_method_30_code 18 = .ok (.invokevirtual 50, 3) := by decide +kernel
theorem kJA_rangeCheck_d21 : decode prog_31_method_30_code 21 = .ok (.iload_n 1, 1) := by decide +kernel
theorem kJA_rangeCheck_d22 : decode prog_31_method_30_code 22 = .ok (.invokevirtual 54, 3) := by decide +kernel
theorem kJA_rangeCheck_d25 : decode prog_31_method_30_code 25 = .ok (.ldc 57, 2) := by decide +kernel
theorem kJA_rangeCheck_d27 : decode prog_31_method_30_code 27 = .ok (.invokevirtual 50, 3) := by decide +kernel
theorem kJA_rangeCheck_d30 : decode prog_31_method_30_code 30 = .ok (.iload_n 2, 1) := by decide +kernel
theorem kJA_rangeCheck_d31 : decode prog_31_method_30_code 31 = .ok (.invokevirtual 54, 3) := by decide +kernel
theorem kJA_rangeCheck_d34 : decode prog_31_method_30_code 34 = .ok (.ldc 59, 2) := by decide +kernel
theorem kJA_rangeCheck_d36 : decode prog_31_method_30_code 36 = .ok (.invokevirtual 50, 3) := by decide +kernel
theorem kJA_rangeCheck_d39 : decode prog_31_method_30_code 39 = .ok (.invokevirtual 61, 3) := by decide +kernel
theorem kJA_rangeCheck_d42 : decode prog_31_method_30_code 42 = .ok (.invokespecial 65, 3) := by decide +kernel
theorem kJA_rangeCheck_d45 : decode prog_31_method_30_code 45 = .ok (.athrow, 1) := by decide +kernel
theorem kJA_rangeCheck_d46 : decode prog_31_method_30_code 46 = .ok (.iload_n 1, 1) := by decide +kernel
theorem kJA_rangeCheck_d47 : decode prog_31_method_30_code 47 = .ok (.ifCond .ge 12, 3) := by decide +kernel
theorem kJA_rangeCheck_d50 : decode prog_31_method_30_code 50 = .ok (.new 68, 3) := by decide +kernel
theorem kJA_rangeCheck_d53 : decode prog_31_method_30_code 53 = .ok (.dup, 1) := by decide +kernel
theorem kJA_rangeCheck_d54 : decode prog_31_method_30_code 54 = .ok (.iload_n 1, 1) := by decide +kernel
theorem kJA_rangeCheck_d55 : decode prog_31_method_30_code 55 = .ok (.invokespecial 70, 3) := by decide +kernel
theorem kJA_rangeCheck_d58 : decode prog_31_method_30_code 58 = .ok (.athrow, 1) := by decide +kernel
theorem kJA_rangeCheck_d59 : decode prog_31_method_30_code 59 = .ok (.iload_n 2, 1) := by decide +kernel
theorem kJA_rangeCheck_d60 : decode prog_31_method_30_code 60 = .ok (.iload_n 0, 1) := by decide +kernel
theorem kJA_rangeCheck_d61 : decode prog_31_method_30_code 61 = .ok (.if_icmp .le 12, 3) := by decide +kernel
theorem kJA_rangeCheck_d64 : decode prog_31_method_30_code 64 = .ok (.new 68, 3) := by decide +kernel
theorem kJA_rangeCheck_d67 : decode prog_31_method_30_code 67 = .ok (.dup, 1) := by decide +kernel
theorem kJA_rangeCheck_d68 : decode prog_31_method_30_code 68 = .ok (.iload_n 2, 1) := by decide +kernel
theorem kJA_rangeCheck_d69 : decode prog_31_method_30_code 69 = .ok (.invokespecial 70, 3) := by decide +kernel
theorem kJA_rangeCheck_d72 : decode prog_31_method_30_code 72 = .ok (.athrow, 1) := by decide +kernel
theorem kJA_rangeCheck_d73 : decode prog_31_method_30_code 73 = .ok (.return_, 1) := by decide +kernel
theorem kJA_copyOf_2_d0 : decode prog_31_method_123_code 0 = .ok (.iload_n 1, 1) := by decide +kernel
theorem kJA_copyOf_2_d1 : decode prog_31_method_123_code 1 = .ok (.aload_n 0, 1) := by decide +kernel
theorem kJA_copyOf_2_d2 : decode prog_31_method_123_code 2 = .ok (.arraylength, 1) := by decide +kernel
theorem kJA_copyOf_2_d3 : decode prog_31_method_123_code 3 = .ok (.if_icmp .ne 11, 3) := by decide +kernel
theorem kJA_copyOf_2_d6 : decode prog_31_method_123_code 6 = .ok (.aload_n 0, 1) := by decide +kernel
theorem kJA_copyOf_2_d7 : decode prog_31_method_123_code 7 = .ok (.invokevirtual 316, 3) := by decide +kernel
theorem kJA_copyOf_2_d10 : decode prog_31_method_123_code 10 = .ok (.checkcast 317, 3) := by decide +kernel
theorem kJA_copyOf_2_d13 : decode prog_31_method_123_code 13 = .ok (.areturn, 1) := by decide +kernel
theorem kJA_copyOf_2_d14 : decode prog_31_method_123_code 14 = .ok (.iload_n 1, 1) := by decide +kernel
theorem kJA_copyOf_2_d15 : decode prog_31_method_123_code 15 = .ok (.newarray .int, 2) := by decide +kernel
theorem kJA_copyOf_2_d17 : decode prog_31_method_123_code 17 = .ok (.astore_n 2, 1) := by decide +kernel
theorem kJA_copyOf_2_d18 : decode prog_31_method_123_code 18 = .ok (.aload_n 0, 1) := by decide +kernel
theorem kJA_copyOf_2_d19 : decode prog_31_method_123_code 19 = .ok (.iconst 0, 1) := by decide +kernel
theorem kJA_copyOf_2_d20 : decode prog_31_method_123_code 20 = .ok (.aload_n 2, 1) := by decide +kernel
theorem kJA_copyOf_2_d21 : decode prog_31_method_123_code 21 = .ok (.iconst 0, 1) := by decide +kernel
theorem kJA_copyOf_2_d22 : decode prog_31_method_123_code 22 = .ok (.aload_n 0, 1) := by decide +kernel
theorem kJA_copyOf_2_d23 : decode prog_31_method_123_code 23 = .ok (.arraylength, 1) := by decide +kernel
theorem kJA_copyOf_2_d24 : decode prog_31_method_123_code 24 = .ok (.iload_n 1, 1) := by decide +kernel
theorem kJA_copyOf_2_d25 : decode prog_31_method_123_code 25 = .ok (.invokestatic 304, 3) := by decide +kernel
theorem kJA_copyOf_2_d28 : decode prog_31_method_123_code 28 = .ok (.invokestatic 150, 3) := by decide +kernel
theorem kJA_copyOf_2_d31 : decode prog_31_method_123_code 31 = .ok (.aload_n 2, 1) := by decide +kernel
theorem kJA_copyOf_2_d32 : decode prog_31_method_123_code 32 = .ok (.areturn, 1) := by decide +kernel
theorem kvJA_JM_min_1 {G : jg} (h : kG G) : jj_cs G "java/util/Arrays" 304 kJM_min_1 2 := ⟨Or.inl (kG_w h kI4 16 rfl rfl), kG_w h kI4 17 rfl rfl, kG_w h kI1 15 rfl rfl, ⟨by decide +kernel, by decide +kernel⟩, by decide +kernel, kJM_min_1_ok h⟩
theorem koJA_copy {G : jg} (h : kG G) : Cond.methodLink "java/util/Arrays" 150 arraycopyName ∈ G.2.2.2.1 := kG_w h kI4 19 rfl rfl
theorem kJM_min_1_d0 : decode prog_22_method_69_code 0 = .ok (.iload_n 0, 1) := by decide +kernel
theorem kJM_min_1_d1 : decode prog_22_method_69_code 1 = .ok (.iload_n 1, 1) := by decide +kernel
theorem kJM_min_1_d2 : decode prog_22_method_69_code 2 = .ok (.if_icmp .gt 7, 3) := by decide +kernel
theorem kJM_min_1_d5 : decode prog_22_method_69_code 5 = .ok (.iload_n 0, 1) := by decide +kernel
theorem kJM_min_1_d6 : decode prog_22_method_69_code 6 = .ok (.goto 4, 3) := by decide +kernel
theorem kJM_min_1_d9 : decode prog_22_method_69_code 9 = .ok (.iload_n 1, 1) := by decide +kernel
theorem kJM_min_1_d10 : decode prog_22_method_69_code 10 = .ok (.ireturn, 1) := by decide +kernel
theorem kJM_min_2_d0 : decode prog_22_method_70_code 0 = .ok (.lload_n 0, 1) := by decide +kernel
theorem kJM_min_2_d1 : decode prog_22_method_70_code 1 = .ok (.lload_n 2, 1) := by decide +kernel
theorem kJM_min_2_d2 : decode prog_22_method_70_code 2 = .ok (.lcmp, 1) := by decide +kernel
theorem kJM_min_2_d3 : decode prog_22_method_70_code 3 = .ok (.ifCond .gt 7, 3) := by decide +kernel
theorem kJM_min_2_d6 : decode prog_22_method_70_code 6 = .ok (.lload_n 0, 1) := by decide +kernel
theorem kJM_min_2_d7 : decode prog_22_method_70_code 7 = .ok (.goto 4, 3) := by decide +kernel
theorem kJM_min_2_d10 : decode prog_22_method_70_code 10 = .ok (.lload_n 2, 1) := by decide +kernel
theorem kJM_min_2_d11 : decode prog_22_method_70_code 11 = .ok (.lreturn, 1) := by decide +kernel
