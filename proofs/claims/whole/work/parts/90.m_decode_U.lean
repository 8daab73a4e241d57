/-! decode rows of ExactForms$Euclid -/
theorem kU_init_d0 : decode prog_5_method_1_code 0 = .ok (.aload_n 0, 1) := by decide +kernel
theorem kU_init_d1 : decode prog_5_method_1_code 1 = .ok (.invokespecial 3, 3) := by decide +kernel
theorem kU_init_d4 : decode prog_5_method_1_code 4 = .ok (.aload_n 0, 1) := by decide +kernel
theorem kU_init_d5 : decode prog_5_method_1_code 5 = .ok (.new 9, 3) := by decide +kernel
theorem kU_init_d8 : decode prog_5_method_1_code 8 = .ok (.dup, 1) := by decide +kernel
theorem kU_init_d9 : decode prog_5_method_1_code 9 = .ok (.sipush 252, 3) := by decide +kernel
theorem kU_init_d12 : decode prog_5_method_1_code 12 = .ok (.invokespecial 11, 3) := by decide +kernel
theorem kU_init_d15 : decode prog_5_method_1_code 15 = .ok (.putfield 14, 3) := by decide +kernel
theorem kU_init_d18 : decode prog_5_method_1_code 18 = .ok (.aload_n 0, 1) := by decide +kernel
theorem kU_init_d19 : decode prog_5_method_1_code 19 = .ok (.new 9, 3) := by decide +kernel
theorem kU_init_d22 : decode prog_5_method_1_code 22 = .ok (.dup, 1) := by decide +kernel
theorem kU_init_d23 : decode prog_5_method_1_code 23 = .ok (.sipush 252, 3) := by decide +kernel
theorem kU_init_d26 : decode prog_5_method_1_code 26 = .ok (.invokespecial 11, 3) := by decide +kernel
theorem kU_init_d29 : decode prog_5_method_1_code 29 = .ok (.putfield 20, 3) := by decide +kernel
theorem kU_init_d32 : decode prog_5_method_1_code 32 = .ok (.aload_n 0, 1) := by decide +kernel
theorem kU_init_d33 : decode prog_5_method_1_code 33 = .ok (.new 9, 3) := by decide +kernel
theorem kU_init_d36 : decode prog_5_method_1_code 36 = .ok (.dup, 1) := by decide +kernel
theorem kU_init_d37 : decode prog_5_method_1_code 37 = .ok (.sipush 252, 3) := by decide +kernel
theorem kU_init_d40 : decode prog_5_method_1_code 40 = .ok (.invokespecial 11, 3) := by decide +kernel
theorem kU_init_d43 : decode prog_5_method_1_code 43 = .ok (.putfield 23, 3) := by decide +kernel
theorem kU_init_d46 : decode prog_5_method_1_code 46 = .ok (.aload_n 0, 1) := by decide +kernel
theorem kU_init_d47 : decode prog_5_method_1_code 47 = .ok (.new 9, 3) := by decide +kernel
theorem kU_init_d50 : decode prog_5_method_1_code 50 = .ok (.dup, 1) := by decide +kernel
theorem kU_init_d51 : decode prog_5_method_1_code 51 = .ok (.sipush 252, 3) := by decide +kernel
theorem kU_init_d54 : decode prog_5_method_1_code 54 = .ok (.invokespecial 11, 3) := by decide +kernel
theorem kU_init_d57 : decode prog_5_method_1_code 57 = .ok (.putfield 26, 3) := by decide +kernel
theorem kU_init_d60 : decode prog_5_method_1_code 60 = .ok (.aload_n 0, 1) := by decide +kernel
theorem kU_init_d61 : decode prog_5_method_1_code 61 = .ok (.new 9, 3) := by decide +kernel
theorem kU_init_d64 : decode prog_5_method_1_code 64 = .ok (.dup, 1) := by decide +kernel
theorem kU_init_d65 : decode prog_5_method_1_code 65 = .ok (.sipush 252, 3) := by decide +kernel
theorem kU_init_d68 : decode prog_5_method_1_code 68 = .ok (.invokespecial 11, 3) := by decide +kernel
theorem kU_init_d71 : decode prog_5_method_1_code 71 = .ok (.putfield 29, 3) := by decide +kernel
theorem kU_init_d74 : decode prog_5_method_1_code 74 = .ok (.aload_n 0, 1) := by decide +kernel
theorem kU_init_d75 : decode prog_5_method_1_code 75 = .ok (.aload_n 1, 1) := by decide +kernel
theorem kU_init_d76 : decode prog_5_method_1_code 76 = .ok (.putfield 32, 3) := by decide +kernel
theorem kU_init_d79 : decode prog_5_method_1_code 79 = .ok (.return_, 1) := by decide +kernel
theorem kU_run_d0 : decode prog_5_method_2_code 0 = .ok (.aload_n 0, 1) := by decide +kernel
theorem kU_run_d1 : decode prog_5_method_2_code 1 = .ok (.getfield 14, 3) := by decide +kernel
theorem kU_run_d4 : decode prog_5_method_2_code 4 = .ok (.aload_n 1, 1) := by decide +kernel
theorem kU_run_d5 : decode prog_5_method_2_code 5 = .ok (.invokevirtual 36, 3) := by decide +kernel
theorem kU_run_d8 : decode prog_5_method_2_code 8 = .ok (.aload_n 0, 1) := by decide +kernel
theorem kU_run_d9 : decode prog_5_method_2_code 9 = .ok (.getfield 23, 3) := by decide +kernel
theorem kU_run_d12 : decode prog_5_method_2_code 12 = .ok (.aload_n 2, 1) := by decide +kernel
theorem kU_run_d13 : decode prog_5_method_2_code 13 = .ok (.invokevirtual 36, 3) := by decide +kernel
theorem kU_run_d16 : decode prog_5_method_2_code 16 = .ok (.aload_n 0, 1) := by decide +kernel
theorem kU_run_d17 : decode prog_5_method_2_code 17 = .ok (.getfield 14, 3) := by decide +kernel
theorem kU_run_d20 : decode prog_5_method_2_code 20 = .ok (.iconst 0, 1) := by decide +kernel
theorem kU_run_d21 : decode prog_5_method_2_code 21 = .ok (.putfield 40, 3) := by decide +kernel
theorem kU_run_d24 : decode prog_5_method_2_code 24 = .ok (.aload_n 0, 1) := by decide +kernel
theorem kU_run_d25 : decode prog_5_method_2_code 25 = .ok (.getfield 23, 3) := by decide +kernel
theorem kU_run_d28 : decode prog_5_method_2_code 28 = .ok (.iconst 0, 1) := by decide +kernel
theorem kU_run_d29 : decode prog_5_method_2_code 29 = .ok (.putfield 40, 3) := by decide +kernel
theorem kU_run_d32 : decode prog_5_method_2_code 32 = .ok (.aload_n 0, 1) := by decide +kernel
theorem kU_run_d33 : decode prog_5_method_2_code 33 = .ok (.getfield 20, 3) := by decide +kernel
theorem kU_run_d36 : decode prog_5_method_2_code 36 = .ok (.invokevirtual 44, 3) := by decide +kernel
theorem kU_run_d39 : decode prog_5_method_2_code 39 = .ok (.aload_n 0, 1) := by decide +kernel
theorem kU_run_d40 : decode prog_5_method_2_code 40 = .ok (.getfield 26, 3) := by decide +kernel
theorem kU_run_d43 : decode prog_5_method_2_code 43 = .ok (.invokevirtual 47, 3) := by decide +kernel
theorem kU_run_d46 : decode prog_5_method_2_code 46 = .ok (.aload_n 0, 1) := by decide +kernel
theorem kU_run_d47 : decode prog_5_method_2_code 47 = .ok (.iconst 0, 1) := by decide +kernel
theorem kU_run_d48 : decode prog_5_method_2_code 48 = .ok (.putfield 50, 3) := by decide +kernel
theorem kU_run_d51 : decode prog_5_method_2_code 51 = .ok (.aload_n 0, 1) := by decide +kernel
theorem kU_run_d52 : decode prog_5_method_2_code 52 = .ok (.getfield 14, 3) := by decide +kernel
theorem kU_run_d55 : decode prog_5_method_2_code 55 = .ok (.aload_n 0, 1) := by decide +kernel
theorem kU_run_d56 : decode prog_5_method_2_code 56 = .ok (.getfield 23, 3) := by decide +kernel
theorem kU_run_d59 : decode prog_5_method_2_code 59 = .ok (.invokevirtual 53, 3) := by decide +kernel
theorem kU_run_d62 : decode prog_5_method_2_code 62 = .ok (.ifCond .ge 7, 3) := by decide +kernel
theorem kU_run_d65 : decode prog_5_method_2_code 65 = .ok (.aload_n 0, 1) := by decide +kernel
theorem kU_run_d66 : decode prog_5_method_2_code 66 = .ok (.invokevirtual 57, 3) := by decide +kernel
theorem kU_run_d69 : decode prog_5_method_2_code 69 = .ok (.iconst 0, 1) := by decide +kernel
theorem kU_run_d70 : decode prog_5_method_2_code 70 = .ok (.istore 4, 2) := by decide +kernel
theorem kU_run_d72 : decode prog_5_method_2_code 72 = .ok (.iload 4, 2) := by decide +kernel
theorem kU_run_d74 : decode prog_5_method_2_code 74 = .ok (.ldc 60, 2) := by decide +kernel
theorem kU_run_d76 : decode prog_5_method_2_code 76 = .ok (.if_icmp .ge 52, 3) := by decide +kernel
theorem kU_run_d79 : decode prog_5_method_2_code 79 = .ok (.aload_n 0, 1) := by decide +kernel
theorem kU_run_d80 : decode prog_5_method_2_code 80 = .ok (.getfield 23, 3) := by decide +kernel
theorem kU_run_d83 : decode prog_5_method_2_code 83 = .ok (.getfield 61, 3) := by decide +kernel
theorem kU_run_d86 : decode prog_5_method_2_code 86 = .ok (.ifCond .le 42, 3) := by decide +kernel
theorem kU_run_d89 : decode prog_5_method_2_code 89 = .ok (.aload_n 0, 1) := by decide +kernel
theorem kU_run_d90 : decode prog_5_method_2_code 90 = .ok (.invokevirtual 65, 3) := by decide +kernel
theorem kU_run_d93 : decode prog_5_method_2_code 93 = .ok (.aload_n 0, 1) := by decide +kernel
theorem kU_run_d94 : decode prog_5_method_2_code 94 = .ok (.getfield 68, 3) := by decide +kernel
theorem kU_run_d97 : decode prog_5_method_2_code 97 = .ok (.lconst 0, 1) := by decide +kernel
theorem kU_run_d98 : decode prog_5_method_2_code 98 = .ok (.lcmp, 1) := by decide +kernel
theorem kU_run_d99 : decode prog_5_method_2_code 99 = .ok (.ifCond .ne 11, 3) := by decide +kernel
theorem kU_run_d102 : decode prog_5_method_2_code 102 = .ok (.aload_n 0, 1) := by decide +kernel
theorem kU_run_d103 : decode prog_5_method_2_code 103 = .ok (.iload_n 3, 1) := by decide +kernel
theorem kU_run_d104 : decode prog_5_method_2_code 104 = .ok (.invokevirtual 72, 3) := by decide +kernel
theorem kU_run_d107 : decode prog_5_method_2_code 107 = .ok (.goto 15, 3) := by decide +kernel
theorem kU_run_d110 : decode prog_5_method_2_code 110 = .ok (.aload_n 0, 1) := by decide +kernel
theorem kU_run_d111 : decode prog_5_method_2_code 111 = .ok (.invokevirtual 76, 3) := by decide +kernel
theorem kU_run_d114 : decode prog_5_method_2_code 114 = .ok (.iload_n 3, 1) := by decide +kernel
theorem kU_run_d115 : decode prog_5_method_2_code 115 = .ok (.ifCond .eq 7, 3) := by decide +kernel
theorem kU_run_d118 : decode prog_5_method_2_code 118 = .ok (.aload_n 0, 1) := by decide +kernel
theorem kU_run_d119 : decode prog_5_method_2_code 119 = .ok (.invokevirtual 79, 3) := by decide +kernel
theorem kU_run_d122 : decode prog_5_method_2_code 122 = .ok (.iinc 4 1, 3) := by decide +kernel
theorem kU_run_d125 : decode prog_5_method_2_code 125 = .ok (.goto (-53), 3) := by decide +kernel
theorem kU_run_d128 : decode prog_5_method_2_code 128 = .ok (.aload_n 0, 1) := by decide +kernel
theorem kU_run_d129 : decode prog_5_method_2_code 129 = .ok (.getfield 20, 3) := by decide +kernel
theorem kU_run_d132 : decode prog_5_method_2_code 132 = .ok (.aload_n 0, 1) := by decide +kernel
theorem kU_run_d133 : decode prog_5_method_2_code 133 = .ok (.getfield 50, 3) := by decide +kernel
theorem kU_run_d136 : decode prog_5_method_2_code 136 = .ok (.ifCond .eq 17, 3) := by decide +kernel
theorem kU_run_d139 : decode prog_5_method_2_code 139 = .ok (.aload_n 0, 1) := by decide +kernel
theorem kU_run_d140 : decode prog_5_method_2_code 140 = .ok (.getfield 20, 3) := by decide +kernel
theorem kU_run_d143 : decode prog_5_method_2_code 143 = .ok (.getfield 61, 3) := by decide +kernel
theorem kU_run_d146 : decode prog_5_method_2_code 146 = .ok (.ifCond .le 7, 3) := by decide +kernel
theorem kU_run_d149 : decode prog_5_method_2_code 149 = .ok (.iconst 1, 1) := by decide +kernel
theorem kU_run_d150 : decode prog_5_method_2_code 150 = .ok (.goto 4, 3) := by decide +kernel
theorem kU_run_d153 : decode prog_5_method_2_code 153 = .ok (.iconst 0, 1) := by decide +kernel
theorem kU_run_d154 : decode prog_5_method_2_code 154 = .ok (.putfield 40, 3) := by decide +kernel
theorem kU_run_d157 : decode prog_5_method_2_code 157 = .ok (.return_, 1) := by decide +kernel
theorem kU_exchange_d0 : decode prog_5_method_3_code 0 = .ok (.aload_n 0, 1) := by decide +kernel
theorem kU_exchange_d1 : decode prog_5_method_3_code 1 = .ok (.getfield 14, 3) := by decide +kernel
theorem kU_exchange_d4 : decode prog_5_method_3_code 4 = .ok (.astore_n 1, 1) := by decide +kernel
theorem kU_exchange_d5 : decode prog_5_method_3_code 5 = .ok (.aload_n 0, 1) := by decide +kernel
theorem kU_exchange_d6 : decode prog_5_method_3_code 6 = .ok (.aload_n 0, 1) := by decide +kernel
theorem kU_exchange_d7 : decode prog_5_method_3_code 7 = .ok (.getfield 23, 3) := by decide +kernel
theorem kU_exchange_d10 : decode prog_5_method_3_code 10 = .ok (.putfield 14, 3) := by decide +kernel
theorem kU_exchange_d13 : decode prog_5_method_3_code 13 = .ok (.aload_n 0, 1) := by decide +kernel
theorem kU_exchange_d14 : decode prog_5_method_3_code 14 = .ok (.aload_n 1, 1) := by decide +kernel
theorem kU_exchange_d15 : decode prog_5_method_3_code 15 = .ok (.putfield 23, 3) := by decide +kernel
theorem kU_exchange_d18 : decode prog_5_method_3_code 18 = .ok (.aload_n 0, 1) := by decide +kernel
theorem kU_exchange_d19 : decode prog_5_method_3_code 19 = .ok (.getfield 20, 3) := by decide +kernel
theorem kU_exchange_d22 : decode prog_5_method_3_code 22 = .ok (.astore_n 2, 1) := by decide +kernel
theorem kU_exchange_d23 : decode prog_5_method_3_code 23 = .ok (.aload_n 0, 1) := by decide +kernel
theorem kU_exchange_d24 : decode prog_5_method_3_code 24 = .ok (.aload_n 0, 1) := by decide +kernel
theorem kU_exchange_d25 : decode prog_5_method_3_code 25 = .ok (.getfield 26, 3) := by decide +kernel
theorem kU_exchange_d28 : decode prog_5_method_3_code 28 = .ok (.putfield 20, 3) := by decide +kernel
theorem kU_exchange_d31 : decode prog_5_method_3_code 31 = .ok (.aload_n 0, 1) := by decide +kernel
theorem kU_exchange_d32 : decode prog_5_method_3_code 32 = .ok (.aload_n 2, 1) := by decide +kernel
theorem kU_exchange_d33 : decode prog_5_method_3_code 33 = .ok (.putfield 26, 3) := by decide +kernel
theorem kU_exchange_d36 : decode prog_5_method_3_code 36 = .ok (.aload_n 0, 1) := by decide +kernel
theorem kU_exchange_d37 : decode prog_5_method_3_code 37 = .ok (.aload_n 0, 1) := by decide +kernel
theorem kU_exchange_d38 : decode prog_5_method_3_code 38 = .ok (.getfield 50, 3) := by decide +kernel
theorem kU_exchange_d41 : decode prog_5_method_3_code 41 = .ok (.ifCond .ne 7, 3) := by decide +kernel
theorem kU_exchange_d44 : decode prog_5_method_3_code 44 = .ok (.iconst 1, 1) := by decide +kernel
theorem kU_exchange_d45 : decode prog_5_method_3_code 45 = .ok (.goto 4, 3) := by decide +kernel
theorem kU_exchange_d48 : decode prog_5_method_3_code 48 = .ok (.iconst 0, 1) := by decide +kernel
theorem kU_exchange_d49 : decode prog_5_method_3_code 49 = .ok (.putfield 50, 3) := by decide +kernel
theorem kU_exchange_d52 : decode prog_5_method_3_code 52 = .ok (.return_, 1) := by decide +kernel
theorem kU_guessSteps_d0 : decode prog_5_method_5_code 0 = .ok (.aload_n 0, 1) := by decide +kernel
theorem kU_guessSteps_d1 : decode prog_5_method_5_code 1 = .ok (.lconst 1, 1) := by decide +kernel
theorem kU_guessSteps_d2 : decode prog_5_method_5_code 2 = .ok (.putfield 101, 3) := by decide +kernel
theorem kU_guessSteps_d5 : decode prog_5_method_5_code 5 = .ok (.aload_n 0, 1) := by decide +kernel
theorem kU_guessSteps_d6 : decode prog_5_method_5_code 6 = .ok (.lconst 0, 1) := by decide +kernel
theorem kU_guessSteps_d7 : decode prog_5_method_5_code 7 = .ok (.putfield 68, 3) := by decide +kernel
theorem kU_guessSteps_d10 : decode prog_5_method_5_code 10 = .ok (.aload_n 0, 1) := by decide +kernel
theorem kU_guessSteps_d11 : decode prog_5_method_5_code 11 = .ok (.lconst 0, 1) := by decide +kernel
theorem kU_guessSteps_d12 : decode prog_5_method_5_code 12 = .ok (.putfield 104, 3) := by decide +kernel
theorem kU_guessSteps_d15 : decode prog_5_method_5_code 15 = .ok (.aload_n 0, 1) := by decide +kernel
theorem kU_guessSteps_d16 : decode prog_5_method_5_code 16 = .ok (.lconst 1, 1) := by decide +kernel
theorem kU_guessSteps_d17 : decode prog_5_method_5_code 17 = .ok (.putfield 107, 3) := by decide +kernel
theorem kU_guessSteps_d20 : decode prog_5_method_5_code 20 = .ok (.iconst 0, 1) := by decide +kernel
theorem kU_guessSteps_d21 : decode prog_5_method_5_code 21 = .ok (.aload_n 0, 1) := by decide +kernel
theorem kU_guessSteps_d22 : decode prog_5_method_5_code 22 = .ok (.getfield 14, 3) := by decide +kernel
theorem kU_guessSteps_d25 : decode prog_5_method_5_code 25 = .ok (.invokevirtual 110, 3) := by decide +kernel
theorem kU_guessSteps_d28 : decode prog_5_method_5_code 28 = .ok (.bipush 62, 2) := by decide +kernel
theorem kU_guessSteps_d30 : decode prog_5_method_5_code 30 = .ok (.isub, 1) := by decide +kernel
theorem kU_guessSteps_d31 : decode prog_5_method_5_code 31 = .ok (.invokestatic 114, 3) := by decide +kernel
theorem kU_guessSteps_d34 : decode prog_5_method_5_code 34 = .ok (.istore_n 1, 1) := by decide +kernel
theorem kU_guessSteps_d35 : decode prog_5_method_5_code 35 = .ok (.aload_n 0, 1) := by decide +kernel
theorem kU_guessSteps_d36 : decode prog_5_method_5_code 36 = .ok (.getfield 14, 3) := by decide +kernel
theorem kU_guessSteps_d39 : decode prog_5_method_5_code 39 = .ok (.iload_n 1, 1) := by decide +kernel
theorem kU_guessSteps_d40 : decode prog_5_method_5_code 40 = .ok (.invokevirtual 120, 3) := by decide +kernel
theorem kU_guessSteps_d43 : decode prog_5_method_5_code 43 = .ok (.lstore_n 2, 1) := by decide +kernel
theorem kU_guessSteps_d44 : decode prog_5_method_5_code 44 = .ok (.aload_n 0, 1) := by decide +kernel
theorem kU_guessSteps_d45 : decode prog_5_method_5_code 45 = .ok (.getfield 23, 3) := by decide +kernel
theorem kU_guessSteps_d48 : decode prog_5_method_5_code 48 = .ok (.iload_n 1, 1) := by decide +kernel
theorem kU_guessSteps_d49 : decode prog_5_method_5_code 49 = .ok (.invokevirtual 120, 3) := by decide +kernel
theorem kU_guessSteps_d52 : decode prog_5_method_5_code 52 = .ok (.lstore 4, 2) := by decide +kernel
theorem kU_guessSteps_d54 : decode prog_5_method_5_code 54 = .ok (.iconst 0, 1) := by decide +kernel
theorem kU_guessSteps_d55 : decode prog_5_method_5_code 55 = .ok (.istore 6, 2) := by decide +kernel
theorem kU_guessSteps_d57 : decode prog_5_method_5_code 57 = .ok (.iload 6, 2) := by decide +kernel
theorem kU_guessSteps_d59 : decode prog_5_method_5_code 59 = .ok (.bipush 64, 2) := by decide +kernel
theorem kU_guessSteps_d61 : decode prog_5_method_5_code 61 = .ok (.if_icmp .ge 154, 3) := by decide +kernel
theorem kU_guessSteps_d64 : decode prog_5_method_5_code 64 = .ok (.iload_n 1, 1) := by decide +kernel
theorem kU_guessSteps_d65 : decode prog_5_method_5_code 65 = .ok (.ifCond .ne 12, 3) := by decide +kernel
theorem kU_guessSteps_d68 : decode prog_5_method_5_code 68 = .ok (.lload_n 2, 1) := by decide +kernel
theorem kU_guessSteps_d69 : decode prog_5_method_5_code 69 = .ok (.lload 4, 2) := by decide +kernel
theorem kU_guessSteps_d71 : decode prog_5_method_5_code 71 = .ok (.invokestatic 124, 3) := by decide +kernel
theorem kU_guessSteps_d74 : decode prog_5_method_5_code 74 = .ok (.goto 10, 3) := by decide +kernel
theorem kU_guessSteps_d77 : decode prog_5_method_5_code 77 = .ok (.aload_n 0, 1) := by decide +kernel
theorem kU_guessSteps_d78 : decode prog_5_method_5_code 78 = .ok (.lload_n 2, 1) := by decide +kernel
theorem kU_guessSteps_d79 : decode prog_5_method_5_code 79 = .ok (.lload 4, 2) := by decide +kernel
theorem kU_guessSteps_d81 : decode prog_5_method_5_code 81 = .ok (.invokevirtual 128, 3) := by decide +kernel
theorem kU_guessSteps_d84 : decode prog_5_method_5_code 84 = .ok (.lstore 7, 2) := by decide +kernel
theorem kU_guessSteps_d86 : decode prog_5_method_5_code 86 = .ok (.lload 7, 2) := by decide +kernel
theorem kU_guessSteps_d88 : decode prog_5_method_5_code 88 = .ok (.ldc2_w 131, 3) := by decide +kernel
theorem kU_guessSteps_d91 : decode prog_5_method_5_code 91 = .ok (.lcmp, 1) := by decide +kernel
theorem kU_guessSteps_d92 : decode prog_5_method_5_code 92 = .ok (.ifCond .lt 4, 3) := by decide +kernel
theorem kU_guessSteps_d95 : decode prog_5_method_5_code 95 = .ok (.return_, 1) := by decide +kernel
theorem kU_guessSteps_d96 : decode prog_5_method_5_code 96 = .ok (.aload_n 0, 1) := by decide +kernel
theorem kU_guessSteps_d97 : decode prog_5_method_5_code 97 = .ok (.getfield 101, 3) := by decide +kernel
theorem kU_guessSteps_d100 : decode prog_5_method_5_code 100 = .ok (.lload 7, 2) := by decide +kernel
theorem kU_guessSteps_d102 : decode prog_5_method_5_code 102 = .ok (.aload_n 0, 1) := by decide +kernel
theorem kU_guessSteps_d103 : decode prog_5_method_5_code 103 = .ok (.getfield 104, 3) := by decide +kernel
theorem kU_guessSteps_d106 : decode prog_5_method_5_code 106 = .ok (.lmul, 1) := by decide +kernel
theorem kU_guessSteps_d107 : decode prog_5_method_5_code 107 = .ok (.lsub, 1) := by decide +kernel
theorem kU_guessSteps_d108 : decode prog_5_method_5_code 108 = .ok (.lstore 9, 2) := by decide +kernel
theorem kU_guessSteps_d110 : decode prog_5_method_5_code 110 = .ok (.aload_n 0, 1) := by decide +kernel
theorem kU_guessSteps_d111 : decode prog_5_method_5_code 111 = .ok (.getfield 68, 3) := by decide +kernel
theorem kU_guessSteps_d114 : decode prog_5_method_5_code 114 = .ok (.lload 7, 2) := by decide +kernel
theorem kU_guessSteps_d116 : decode prog_5_method_5_code 116 = .ok (.aload_n 0, 1) := by decide +kernel
theorem kU_guessSteps_d117 : decode prog_5_method_5_code 117 = .ok (.getfield 107, 3) := by decide +kernel
theorem kU_guessSteps_d120 : decode prog_5_method_5_code 120 = .ok (.lmul, 1) := by decide +kernel
theorem kU_guessSteps_d121 : decode prog_5_method_5_code 121 = .ok (.lsub, 1) := by decide +kernel
theorem kU_guessSteps_d122 : decode prog_5_method_5_code 122 = .ok (.lstore 11, 2) := by decide +kernel
theorem kU_guessSteps_d124 : decode prog_5_method_5_code 124 = .ok (.lload 9, 2) := by decide +kernel
theorem kU_guessSteps_d126 : decode prog_5_method_5_code 126 = .ok (.invokestatic 133, 3) := by decide +kernel
theorem kU_guessSteps_d129 : decode prog_5_method_5_code 129 = .ok (.ldc2_w 131, 3) := by decide +kernel
theorem kU_guessSteps_d132 : decode prog_5_method_5_code 132 = .ok (.lcmp, 1) := by decide +kernel
theorem kU_guessSteps_d133 : decode prog_5_method_5_code 133 = .ok (.ifCond .ge 15, 3) := by decide +kernel
theorem kU_guessSteps_d136 : decode prog_5_method_5_code 136 = .ok (.lload 11, 2) := by decide +kernel
theorem kU_guessSteps_d138 : decode prog_5_method_5_code 138 = .ok (.invokestatic 133, 3) := by decide +kernel
theorem kU_guessSteps_d141 : decode prog_5_method_5_code 141 = .ok (.ldc2_w 131, 3) := by decide +kernel
theorem kU_guessSteps_d144 : decode prog_5_method_5_code 144 = .ok (.lcmp, 1) := by decide +kernel
theorem kU_guessSteps_d145 : decode prog_5_method_5_code 145 = .ok (.ifCond .lt 4, 3) := by decide +kernel
theorem kU_guessSteps_d148 : decode prog_5_method_5_code 148 = .ok (.return_, 1) := by decide +kernel
theorem kU_guessSteps_d149 : decode prog_5_method_5_code 149 = .ok (.aload_n 0, 1) := by decide +kernel
theorem kU_guessSteps_d150 : decode prog_5_method_5_code 150 = .ok (.aload_n 0, 1) := by decide +kernel
theorem kU_guessSteps_d151 : decode prog_5_method_5_code 151 = .ok (.getfield 104, 3) := by decide +kernel
theorem kU_guessSteps_d154 : decode prog_5_method_5_code 154 = .ok (.putfield 101, 3) := by decide +kernel
theorem kU_guessSteps_d157 : decode prog_5_method_5_code 157 = .ok (.aload_n 0, 1) := by decide +kernel
theorem kU_guessSteps_d158 : decode prog_5_method_5_code 158 = .ok (.aload_n 0, 1) := by decide +kernel
theorem kU_guessSteps_d159 : decode prog_5_method_5_code 159 = .ok (.getfield 107, 3) := by decide +kernel
theorem kU_guessSteps_d162 : decode prog_5_method_5_code 162 = .ok (.putfield 68, 3) := by decide +kernel
theorem kU_guessSteps_d165 : decode prog_5_method_5_code 165 = .ok (.aload_n 0, 1) := by decide +kernel
theorem kU_guessSteps_d166 : decode prog_5_method_5_code 166 = .ok (.lload 9, 2) := by decide +kernel
theorem kU_guessSteps_d168 : decode prog_5_method_5_code 168 = .ok (.putfield 104, 3) := by decide +kernel
theorem kU_guessSteps_d171 : decode prog_5_method_5_code 171 = .ok (.aload_n 0, 1) := by decide +kernel
theorem kU_guessSteps_d172 : decode prog_5_method_5_code 172 = .ok (.lload 11, 2) := by decide +kernel
theorem kU_guessSteps_d174 : decode prog_5_method_5_code 174 = .ok (.putfield 107, 3) := by decide +kernel
theorem kU_guessSteps_d177 : decode prog_5_method_5_code 177 = .ok (.lload_n 2, 1) := by decide +kernel
theorem kU_guessSteps_d178 : decode prog_5_method_5_code 178 = .ok (.lload 7, 2) := by decide +kernel
theorem kU_guessSteps_d180 : decode prog_5_method_5_code 180 = .ok (.lload 4, 2) := by decide +kernel
theorem kU_guessSteps_d182 : decode prog_5_method_5_code 182 = .ok (.lmul, 1) := by decide +kernel
theorem kU_guessSteps_d183 : decode prog_5_method_5_code 183 = .ok (.lsub, 1) := by decide +kernel
theorem kU_guessSteps_d184 : decode prog_5_method_5_code 184 = .ok (.lstore 13, 2) := by decide +kernel
theorem kU_guessSteps_d186 : decode prog_5_method_5_code 186 = .ok (.lload 4, 2) := by decide +kernel
theorem kU_guessSteps_d188 : decode prog_5_method_5_code 188 = .ok (.lstore_n 2, 1) := by decide +kernel
theorem kU_guessSteps_d189 : decode prog_5_method_5_code 189 = .ok (.lload 13, 2) := by decide +kernel
theorem kU_guessSteps_d191 : decode prog_5_method_5_code 191 = .ok (.lstore 4, 2) := by decide +kernel
theorem kU_guessSteps_d193 : decode prog_5_method_5_code 193 = .ok (.aload_n 0, 1) := by decide +kernel
theorem kU_guessSteps_d194 : decode prog_5_method_5_code 194 = .ok (.aload_n 0, 1) := by decide +kernel
theorem kU_guessSteps_d195 : decode prog_5_method_5_code 195 = .ok (.getfield 50, 3) := by decide +kernel
theorem kU_guessSteps_d198 : decode prog_5_method_5_code 198 = .ok (.ifCond .ne 7, 3) := by decide +kernel
theorem kU_guessSteps_d201 : decode prog_5_method_5_code 201 = .ok (.iconst 1, 1) := by decide +kernel
theorem kU_guessSteps_d202 : decode prog_5_method_5_code 202 = .ok (.goto 4, 3) := by decide +kernel
theorem kU_guessSteps_d205 : decode prog_5_method_5_code 205 = .ok (.iconst 0, 1) := by decide +kernel
theorem kU_guessSteps_d206 : decode prog_5_method_5_code 206 = .ok (.putfield 50, 3) := by decide +kernel
theorem kU_guessSteps_d209 : decode prog_5_method_5_code 209 = .ok (.iinc 6 1, 3) := by decide +kernel
theorem kU_guessSteps_d212 : decode prog_5_method_5_code 212 = .ok (.goto (-155), 3) := by decide +kernel
theorem kU_guessSteps_d215 : decode prog_5_method_5_code 215 = .ok (.return_, 1) := by decide +kernel
theorem kU_quotientOf_d0 : decode prog_5_method_6_code 0 = .ok (.lload_n 2, 1) := by decide +kernel
theorem kU_quotientOf_d1 : decode prog_5_method_6_code 1 = .ok (.lconst 0, 1) := by decide +kernel
theorem kU_quotientOf_d2 : decode prog_5_method_6_code 2 = .ok (.lcmp, 1) := by decide +kernel
theorem kU_quotientOf_d3 : decode prog_5_method_6_code 3 = .ok (.ifCond .le 9, 3) := by decide +kernel
theorem kU_quotientOf_d6 : decode prog_5_method_6_code 6 = .ok (.lload_n 0, 1) := by decide +kernel
theorem kU_quotientOf_d7 : decode prog_5_method_6_code 7 = .ok (.lload_n 2, 1) := by decide +kernel
theorem kU_quotientOf_d8 : decode prog_5_method_6_code 8 = .ok (.ldiv, 1) := by decide +kernel
theorem kU_quotientOf_d9 : decode prog_5_method_6_code 9 = .ok (.goto 6, 3) := by decide +kernel
theorem kU_quotientOf_d12 : decode prog_5_method_6_code 12 = .ok (.ldc2_w 131, 3) := by decide +kernel
theorem kU_quotientOf_d15 : decode prog_5_method_6_code 15 = .ok (.lreturn, 1) := by decide +kernel
theorem kU_sureQuotient_d0 : decode prog_5_method_7_code 0 = .ok (.lload_n 3, 1) := by decide +kernel
theorem kU_sureQuotient_d1 : decode prog_5_method_7_code 1 = .ok (.aload_n 0, 1) := by decide +kernel
theorem kU_sureQuotient_d2 : decode prog_5_method_7_code 2 = .ok (.getfield 104, 3) := by decide +kernel
theorem kU_sureQuotient_d5 : decode prog_5_method_7_code 5 = .ok (.ladd, 1) := by decide +kernel
theorem kU_sureQuotient_d6 : decode prog_5_method_7_code 6 = .ok (.lconst 0, 1) := by decide +kernel
theorem kU_sureQuotient_d7 : decode prog_5_method_7_code 7 = .ok (.lcmp, 1) := by decide +kernel
theorem kU_sureQuotient_d8 : decode prog_5_method_7_code 8 = .ok (.ifCond .le 14, 3) := by decide +kernel
theorem kU_sureQuotient_d11 : decode prog_5_method_7_code 11 = .ok (.lload_n 3, 1) := by decide +kernel
theorem kU_sureQuotient_d12 : decode prog_5_method_7_code 12 = .ok (.aload_n 0, 1) := by decide +kernel
theorem kU_sureQuotient_d13 : decode prog_5_method_7_code 13 = .ok (.getfield 107, 3) := by decide +kernel
theorem kU_sureQuotient_d16 : decode prog_5_method_7_code 16 = .ok (.ladd, 1) := by decide +kernel
theorem kU_sureQuotient_d17 : decode prog_5_method_7_code 17 = .ok (.lconst 0, 1) := by decide +kernel
theorem kU_sureQuotient_d18 : decode prog_5_method_7_code 18 = .ok (.lcmp, 1) := by decide +kernel
theorem kU_sureQuotient_d19 : decode prog_5_method_7_code 19 = .ok (.ifCond .gt 7, 3) := by decide +kernel
theorem kU_sureQuotient_d22 : decode prog_5_method_7_code 22 = .ok (.ldc2_w 131, 3) := by decide +kernel
theorem kU_sureQuotient_d25 : decode prog_5_method_7_code 25 = .ok (.lreturn, 1) := by decide +kernel
theorem kU_sureQuotient_d26 : decode prog_5_method_7_code 26 = .ok (.lload_n 1, 1) := by decide +kernel
theorem kU_sureQuotient_d27 : decode prog_5_method_7_code 27 = .ok (.aload_n 0, 1) := by decide +kernel
theorem kU_sureQuotient_d28 : decode prog_5_method_7_code 28 = .ok (.getfield 101, 3) := by decide +kernel
theorem kU_sureQuotient_d31 : decode prog_5_method_7_code 31 = .ok (.ladd, 1) := by decide +kernel
theorem kU_sureQuotient_d32 : decode prog_5_method_7_code 32 = .ok (.lload_n 3, 1) := by decide +kernel
theorem kU_sureQuotient_d33 : decode prog_5_method_7_code 33 = .ok (.aload_n 0, 1) := by decide +kernel
theorem kU_sureQuotient_d34 : decode prog_5_method_7_code 34 = .ok (.getfield 104, 3) := by decide +kernel
theorem kU_sureQuotient_d37 : decode prog_5_method_7_code 37 = .ok (.ladd, 1) := by decide +kernel
theorem kU_sureQuotient_d38 : decode prog_5_method_7_code 38 = .ok (.ldiv, 1) := by decide +kernel
theorem kU_sureQuotient_d39 : decode prog_5_method_7_code 39 = .ok (.lstore 5, 2) := by decide +kernel
theorem kU_sureQuotient_d41 : decode prog_5_method_7_code 41 = .ok (.lload 5, 2) := by decide +kernel
theorem kU_sureQuotient_d43 : decode prog_5_method_7_code 43 = .ok (.lload_n 1, 1) := by decide +kernel
theorem kU_sureQuotient_d44 : decode prog_5_method_7_code 44 = .ok (.aload_n 0, 1) := by decide +kernel
theorem kU_sureQuotient_d45 : decode prog_5_method_7_code 45 = .ok (.getfield 68, 3) := by decide +kernel
theorem kU_sureQuotient_d48 : decode prog_5_method_7_code 48 = .ok (.ladd, 1) := by decide +kernel
theorem kU_sureQuotient_d49 : decode prog_5_method_7_code 49 = .ok (.lload_n 3, 1) := by decide +kernel
theorem kU_sureQuotient_d50 : decode prog_5_method_7_code 50 = .ok (.aload_n 0, 1) := by decide +kernel
theorem kU_sureQuotient_d51 : decode prog_5_method_7_code 51 = .ok (.getfield 107, 3) := by decide +kernel
theorem kU_sureQuotient_d54 : decode prog_5_method_7_code 54 = .ok (.ladd, 1) := by decide +kernel
theorem kU_sureQuotient_d55 : decode prog_5_method_7_code 55 = .ok (.ldiv, 1) := by decide +kernel
theorem kU_sureQuotient_d56 : decode prog_5_method_7_code 56 = .ok (.lcmp, 1) := by decide +kernel
theorem kU_sureQuotient_d57 : decode prog_5_method_7_code 57 = .ok (.ifCond .ne 8, 3) := by decide +kernel
theorem kU_sureQuotient_d60 : decode prog_5_method_7_code 60 = .ok (.lload 5, 2) := by decide +kernel
theorem kU_sureQuotient_d62 : decode prog_5_method_7_code 62 = .ok (.goto 6, 3) := by decide +kernel
theorem kU_sureQuotient_d65 : decode prog_5_method_7_code 65 = .ok (.ldc2_w 131, 3) := by decide +kernel
theorem kU_sureQuotient_d68 : decode prog_5_method_7_code 68 = .ok (.lreturn, 1) := by decide +kernel
theorem kU_divideOnce_d0 : decode prog_5_method_4_code 0 = .ok (.aload_n 0, 1) := by decide +kernel
theorem kU_divideOnce_d1 : decode prog_5_method_4_code 1 = .ok (.getfield 32, 3) := by decide +kernel
theorem kU_divideOnce_d4 : decode prog_5_method_4_code 4 = .ok (.aload_n 0, 1) := by decide +kernel
theorem kU_divideOnce_d5 : decode prog_5_method_4_code 5 = .ok (.getfield 14, 3) := by decide +kernel
theorem kU_divideOnce_d8 : decode prog_5_method_4_code 8 = .ok (.aload_n 0, 1) := by decide +kernel
theorem kU_divideOnce_d9 : decode prog_5_method_4_code 9 = .ok (.getfield 23, 3) := by decide +kernel
theorem kU_divideOnce_d12 : decode prog_5_method_4_code 12 = .ok (.invokevirtual 82, 3) := by decide +kernel
theorem kU_divideOnce_d15 : decode prog_5_method_4_code 15 = .ok (.aload_n 0, 1) := by decide +kernel
theorem kU_divideOnce_d16 : decode prog_5_method_4_code 16 = .ok (.getfield 14, 3) := by decide +kernel
theorem kU_divideOnce_d19 : decode prog_5_method_4_code 19 = .ok (.astore_n 2, 1) := by decide +kernel
theorem kU_divideOnce_d20 : decode prog_5_method_4_code 20 = .ok (.aload_n 0, 1) := by decide +kernel
theorem kU_divideOnce_d21 : decode prog_5_method_4_code 21 = .ok (.aload_n 0, 1) := by decide +kernel
theorem kU_divideOnce_d22 : decode prog_5_method_4_code 22 = .ok (.getfield 23, 3) := by decide +kernel
theorem kU_divideOnce_d25 : decode prog_5_method_4_code 25 = .ok (.putfield 14, 3) := by decide +kernel
theorem kU_divideOnce_d28 : decode prog_5_method_4_code 28 = .ok (.aload_n 0, 1) := by decide +kernel
theorem kU_divideOnce_d29 : decode prog_5_method_4_code 29 = .ok (.aload_n 0, 1) := by decide +kernel
theorem kU_divideOnce_d30 : decode prog_5_method_4_code 30 = .ok (.getfield 32, 3) := by decide +kernel
theorem kU_divideOnce_d33 : decode prog_5_method_4_code 33 = .ok (.getfield 88, 3) := by decide +kernel
theorem kU_divideOnce_d36 : decode prog_5_method_4_code 36 = .ok (.putfield 23, 3) := by decide +kernel
theorem kU_divideOnce_d39 : decode prog_5_method_4_code 39 = .ok (.aload_n 0, 1) := by decide +kernel
theorem kU_divideOnce_d40 : decode prog_5_method_4_code 40 = .ok (.getfield 32, 3) := by decide +kernel
theorem kU_divideOnce_d43 : decode prog_5_method_4_code 43 = .ok (.aload_n 2, 1) := by decide +kernel
theorem kU_divideOnce_d44 : decode prog_5_method_4_code 44 = .ok (.putfield 88, 3) := by decide +kernel
theorem kU_divideOnce_d47 : decode prog_5_method_4_code 47 = .ok (.aload_n 0, 1) := by decide +kernel
theorem kU_divideOnce_d48 : decode prog_5_method_4_code 48 = .ok (.aload_n 0, 1) := by decide +kernel
theorem kU_divideOnce_d49 : decode prog_5_method_4_code 49 = .ok (.getfield 50, 3) := by decide +kernel
theorem kU_divideOnce_d52 : decode prog_5_method_4_code 52 = .ok (.ifCond .ne 7, 3) := by decide +kernel
theorem kU_divideOnce_d55 : decode prog_5_method_4_code 55 = .ok (.iconst 1, 1) := by decide +kernel
theorem kU_divideOnce_d56 : decode prog_5_method_4_code 56 = .ok (.goto 4, 3) := by decide +kernel
theorem kU_divideOnce_d59 : decode prog_5_method_4_code 59 = .ok (.iconst 0, 1) := by decide +kernel
theorem kU_divideOnce_d60 : decode prog_5_method_4_code 60 = .ok (.putfield 50, 3) := by decide +kernel
theorem kU_divideOnce_d63 : decode prog_5_method_4_code 63 = .ok (.iload_n 1, 1) := by decide +kernel
theorem kU_divideOnce_d64 : decode prog_5_method_4_code 64 = .ok (.ifCond .eq 63, 3) := by decide +kernel
theorem kU_divideOnce_d67 : decode prog_5_method_4_code 67 = .ok (.aload_n 0, 1) := by decide +kernel
theorem kU_divideOnce_d68 : decode prog_5_method_4_code 68 = .ok (.getfield 29, 3) := by decide +kernel
theorem kU_divideOnce_d71 : decode prog_5_method_4_code 71 = .ok (.aload_n 0, 1) := by decide +kernel
theorem kU_divideOnce_d72 : decode prog_5_method_4_code 72 = .ok (.getfield 32, 3) := by decide +kernel
theorem kU_divideOnce_d75 : decode prog_5_method_4_code 75 = .ok (.getfield 91, 3) := by decide +kernel
theorem kU_divideOnce_d78 : decode prog_5_method_4_code 78 = .ok (.aload_n 0, 1) := by decide +kernel
theorem kU_divideOnce_d79 : decode prog_5_method_4_code 79 = .ok (.getfield 26, 3) := by decide +kernel
theorem kU_divideOnce_d82 : decode prog_5_method_4_code 82 = .ok (.invokevirtual 94, 3) := by decide +kernel
theorem kU_divideOnce_d85 : decode prog_5_method_4_code 85 = .ok (.aload_n 0, 1) := by decide +kernel
theorem kU_divideOnce_d86 : decode prog_5_method_4_code 86 = .ok (.getfield 29, 3) := by decide +kernel
theorem kU_divideOnce_d89 : decode prog_5_method_4_code 89 = .ok (.aload_n 0, 1) := by decide +kernel
theorem kU_divideOnce_d90 : decode prog_5_method_4_code 90 = .ok (.getfield 29, 3) := by decide +kernel
theorem kU_divideOnce_d93 : decode prog_5_method_4_code 93 = .ok (.aload_n 0, 1) := by decide +kernel
theorem kU_divideOnce_d94 : decode prog_5_method_4_code 94 = .ok (.getfield 20, 3) := by decide +kernel
theorem kU_divideOnce_d97 : decode prog_5_method_4_code 97 = .ok (.iconst 0, 1) := by decide +kernel
theorem kU_divideOnce_d98 : decode prog_5_method_4_code 98 = .ok (.invokevirtual 97, 3) := by decide +kernel
theorem kU_divideOnce_d101 : decode prog_5_method_4_code 101 = .ok (.aload_n 0, 1) := by decide +kernel
theorem kU_divideOnce_d102 : decode prog_5_method_4_code 102 = .ok (.getfield 20, 3) := by decide +kernel
theorem kU_divideOnce_d105 : decode prog_5_method_4_code 105 = .ok (.astore_n 3, 1) := by decide +kernel
theorem kU_divideOnce_d106 : decode prog_5_method_4_code 106 = .ok (.aload_n 0, 1) := by decide +kernel
theorem kU_divideOnce_d107 : decode prog_5_method_4_code 107 = .ok (.aload_n 0, 1) := by decide +kernel
theorem kU_divideOnce_d108 : decode prog_5_method_4_code 108 = .ok (.getfield 26, 3) := by decide +kernel
theorem kU_divideOnce_d111 : decode prog_5_method_4_code 111 = .ok (.putfield 20, 3) := by decide +kernel
theorem kU_divideOnce_d114 : decode prog_5_method_4_code 114 = .ok (.aload_n 0, 1) := by decide +kernel
theorem kU_divideOnce_d115 : decode prog_5_method_4_code 115 = .ok (.aload_n 0, 1) := by decide +kernel
theorem kU_divideOnce_d116 : decode prog_5_method_4_code 116 = .ok (.getfield 29, 3) := by decide +kernel
theorem kU_divideOnce_d119 : decode prog_5_method_4_code 119 = .ok (.putfield 26, 3) := by decide +kernel
theorem kU_divideOnce_d122 : decode prog_5_method_4_code 122 = .ok (.aload_n 0, 1) := by decide +kernel
theorem kU_divideOnce_d123 : decode prog_5_method_4_code 123 = .ok (.aload_n 3, 1) := by decide +kernel
theorem kU_divideOnce_d124 : decode prog_5_method_4_code 124 = .ok (.putfield 29, 3) := by decide +kernel
theorem kU_divideOnce_d127 : decode prog_5_method_4_code 127 = .ok (.return_, 1) := by decide +kernel
theorem kU_applySteps_d0 : decode prog_5_method_8_code 0 = .ok (.aload_n 0, 1) := by decide +kernel
theorem kU_applySteps_d1 : decode prog_5_method_8_code 1 = .ok (.getfield 14, 3) := by decide +kernel
theorem kU_applySteps_d4 : decode prog_5_method_8_code 4 = .ok (.getfield 61, 3) := by decide +kernel
theorem kU_applySteps_d7 : decode prog_5_method_8_code 7 = .ok (.istore_n 1, 1) := by decide +kernel
theorem kU_applySteps_d8 : decode prog_5_method_8_code 8 = .ok (.aload_n 0, 1) := by decide +kernel
theorem kU_applySteps_d9 : decode prog_5_method_8_code 9 = .ok (.getfield 23, 3) := by decide +kernel
theorem kU_applySteps_d12 : decode prog_5_method_8_code 12 = .ok (.iload_n 1, 1) := by decide +kernel
theorem kU_applySteps_d13 : decode prog_5_method_8_code 13 = .ok (.invokestatic 137, 3) := by decide +kernel
theorem kU_applySteps_d16 : decode prog_5_method_8_code 16 = .ok (.aload_n 0, 1) := by decide +kernel
theorem kU_applySteps_d17 : decode prog_5_method_8_code 17 = .ok (.getfield 14, 3) := by decide +kernel
theorem kU_applySteps_d20 : decode prog_5_method_8_code 20 = .ok (.getfield 141, 3) := by decide +kernel
theorem kU_applySteps_d23 : decode prog_5_method_8_code 23 = .ok (.astore_n 2, 1) := by decide +kernel
theorem kU_applySteps_d24 : decode prog_5_method_8_code 24 = .ok (.aload_n 0, 1) := by decide +kernel
theorem kU_applySteps_d25 : decode prog_5_method_8_code 25 = .ok (.getfield 23, 3) := by decide +kernel
theorem kU_applySteps_d28 : decode prog_5_method_8_code 28 = .ok (.getfield 141, 3) := by decide +kernel
theorem kU_applySteps_d31 : decode prog_5_method_8_code 31 = .ok (.astore_n 3, 1) := by decide +kernel
theorem kU_applySteps_d32 : decode prog_5_method_8_code 32 = .ok (.lconst 0, 1) := by decide +kernel
theorem kU_applySteps_d33 : decode prog_5_method_8_code 33 = .ok (.lstore 4, 2) := by decide +kernel
theorem kU_applySteps_d35 : decode prog_5_method_8_code 35 = .ok (.lconst 0, 1) := by decide +kernel
theorem kU_applySteps_d36 : decode prog_5_method_8_code 36 = .ok (.lstore 6, 2) := by decide +kernel
theorem kU_applySteps_d38 : decode prog_5_method_8_code 38 = .ok (.iconst 0, 1) := by decide +kernel
theorem kU_applySteps_d39 : decode prog_5_method_8_code 39 = .ok (.istore 8, 2) := by decide +kernel
theorem kU_applySteps_d41 : decode prog_5_method_8_code 41 = .ok (.iload 8, 2) := by decide +kernel
theorem kU_applySteps_d43 : decode prog_5_method_8_code 43 = .ok (.iload_n 1, 1) := by decide +kernel
theorem kU_applySteps_d44 : decode prog_5_method_8_code 44 = .ok (.if_icmp .ge 99, 3) := by decide +kernel
theorem kU_applySteps_d47 : decode prog_5_method_8_code 47 = .ok (.aload_n 2, 1) := by decide +kernel
theorem kU_applySteps_d48 : decode prog_5_method_8_code 48 = .ok (.iload 8, 2) := by decide +kernel
theorem kU_applySteps_d50 : decode prog_5_method_8_code 50 = .ok (.iaload, 1) := by decide +kernel
theorem kU_applySteps_d51 : decode prog_5_method_8_code 51 = .ok (.i2l, 1) := by decide +kernel
theorem kU_applySteps_d52 : decode prog_5_method_8_code 52 = .ok (.ldc2_w 145, 3) := by decide +kernel
theorem kU_applySteps_d55 : decode prog_5_method_8_code 55 = .ok (.land, 1) := by decide +kernel
theorem kU_applySteps_d56 : decode prog_5_method_8_code 56 = .ok (.lstore 9, 2) := by decide +kernel
theorem kU_applySteps_d58 : decode prog_5_method_8_code 58 = .ok (.aload_n 3, 1) := by decide +kernel
theorem kU_applySteps_d59 : decode prog_5_method_8_code 59 = .ok (.iload 8, 2) := by decide +kernel
theorem kU_applySteps_d61 : decode prog_5_method_8_code 61 = .ok (.iaload, 1) := by decide +kernel
theorem kU_applySteps_d62 : decode prog_5_method_8_code 62 = .ok (.i2l, 1) := by decide +kernel
theorem kU_applySteps_d63 : decode prog_5_method_8_code 63 = .ok (.ldc2_w 145, 3) := by decide +kernel
theorem kU_applySteps_d66 : decode prog_5_method_8_code 66 = .ok (.land, 1) := by decide +kernel
theorem kU_applySteps_d67 : decode prog_5_method_8_code 67 = .ok (.lstore 11, 2) := by decide +kernel
theorem kU_applySteps_d69 : decode prog_5_method_8_code 69 = .ok (.lload 4, 2) := by decide +kernel
theorem kU_applySteps_d71 : decode prog_5_method_8_code 71 = .ok (.aload_n 0, 1) := by decide +kernel
theorem kU_applySteps_d72 : decode prog_5_method_8_code 72 = .ok (.getfield 101, 3) := by decide +kernel
theorem kU_applySteps_d75 : decode prog_5_method_8_code 75 = .ok (.lload 9, 2) := by decide +kernel
theorem kU_applySteps_d77 : decode prog_5_method_8_code 77 = .ok (.lmul, 1) := by decide +kernel
theorem kU_applySteps_d78 : decode prog_5_method_8_code 78 = .ok (.aload_n 0, 1) := by decide +kernel
theorem kU_applySteps_d79 : decode prog_5_method_8_code 79 = .ok (.getfield 68, 3) := by decide +kernel
theorem kU_applySteps_d82 : decode prog_5_method_8_code 82 = .ok (.lload 11, 2) := by decide +kernel
theorem kU_applySteps_d84 : decode prog_5_method_8_code 84 = .ok (.lmul, 1) := by decide +kernel
theorem kU_applySteps_d85 : decode prog_5_method_8_code 85 = .ok (.ladd, 1) := by decide +kernel
theorem kU_applySteps_d86 : decode prog_5_method_8_code 86 = .ok (.ladd, 1) := by decide +kernel
theorem kU_applySteps_d87 : decode prog_5_method_8_code 87 = .ok (.lstore 4, 2) := by decide +kernel
theorem kU_applySteps_d89 : decode prog_5_method_8_code 89 = .ok (.lload 6, 2) := by decide +kernel
theorem kU_applySteps_d91 : decode prog_5_method_8_code 91 = .ok (.aload_n 0, 1) := by decide +kernel
theorem kU_applySteps_d92 : decode prog_5_method_8_code 92 = .ok (.getfield 104, 3) := by decide +kernel
theorem kU_applySteps_d95 : decode prog_5_method_8_code 95 = .ok (.lload 9, 2) := by decide +kernel
theorem kU_applySteps_d97 : decode prog_5_method_8_code 97 = .ok (.lmul, 1) := by decide +kernel
theorem kU_applySteps_d98 : decode prog_5_method_8_code 98 = .ok (.aload_n 0, 1) := by decide +kernel
theorem kU_applySteps_d99 : decode prog_5_method_8_code 99 = .ok (.getfield 107, 3) := by decide +kernel
theorem kU_applySteps_d102 : decode prog_5_method_8_code 102 = .ok (.lload 11, 2) := by decide +kernel
theorem kU_applySteps_d104 : decode prog_5_method_8_code 104 = .ok (.lmul, 1) := by decide +kernel
theorem kU_applySteps_d105 : decode prog_5_method_8_code 105 = .ok (.ladd, 1) := by decide +kernel
theorem kU_applySteps_d106 : decode prog_5_method_8_code 106 = .ok (.ladd, 1) := by decide +kernel
theorem kU_applySteps_d107 : decode prog_5_method_8_code 107 = .ok (.lstore 6, 2) := by decide +kernel
theorem kU_applySteps_d109 : decode prog_5_method_8_code 109 = .ok (.aload_n 2, 1) := by decide +kernel
theorem kU_applySteps_d110 : decode prog_5_method_8_code 110 = .ok (.iload 8, 2) := by decide +kernel
theorem kU_applySteps_d112 : decode prog_5_method_8_code 112 = .ok (.lload 4, 2) := by decide +kernel
theorem kU_applySteps_d114 : decode prog_5_method_8_code 114 = .ok (.l2i, 1) := by decide +kernel
theorem kU_applySteps_d115 : decode prog_5_method_8_code 115 = .ok (.iastore, 1) := by decide +kernel
theorem kU_applySteps_d116 : decode prog_5_method_8_code 116 = .ok (.aload_n 3, 1) := by decide +kernel
theorem kU_applySteps_d117 : decode prog_5_method_8_code 117 = .ok (.iload 8, 2) := by decide +kernel
theorem kU_applySteps_d119 : decode prog_5_method_8_code 119 = .ok (.lload 6, 2) := by decide +kernel
theorem kU_applySteps_d121 : decode prog_5_method_8_code 121 = .ok (.l2i, 1) := by decide +kernel
theorem kU_applySteps_d122 : decode prog_5_method_8_code 122 = .ok (.iastore, 1) := by decide +kernel
theorem kU_applySteps_d123 : decode prog_5_method_8_code 123 = .ok (.lload 4, 2) := by decide +kernel
theorem kU_applySteps_d125 : decode prog_5_method_8_code 125 = .ok (.bipush 32, 2) := by decide +kernel
theorem kU_applySteps_d127 : decode prog_5_method_8_code 127 = .ok (.lshr, 1) := by decide +kernel
theorem kU_applySteps_d128 : decode prog_5_method_8_code 128 = .ok (.lstore 4, 2) := by decide +kernel
theorem kU_applySteps_d130 : decode prog_5_method_8_code 130 = .ok (.lload 6, 2) := by decide +kernel
theorem kU_applySteps_d132 : decode prog_5_method_8_code 132 = .ok (.bipush 32, 2) := by decide +kernel
theorem kU_applySteps_d134 : decode prog_5_method_8_code 134 = .ok (.lshr, 1) := by decide +kernel
theorem kU_applySteps_d135 : decode prog_5_method_8_code 135 = .ok (.lstore 6, 2) := by decide +kernel
theorem kU_applySteps_d137 : decode prog_5_method_8_code 137 = .ok (.iinc 8 1, 3) := by decide +kernel
theorem kU_applySteps_d140 : decode prog_5_method_8_code 140 = .ok (.goto (-99), 3) := by decide +kernel
theorem kU_applySteps_d143 : decode prog_5_method_8_code 143 = .ok (.aload_n 0, 1) := by decide +kernel
theorem kU_applySteps_d144 : decode prog_5_method_8_code 144 = .ok (.getfield 14, 3) := by decide +kernel
theorem kU_applySteps_d147 : decode prog_5_method_8_code 147 = .ok (.invokevirtual 147, 3) := by decide +kernel
theorem kU_applySteps_d150 : decode prog_5_method_8_code 150 = .ok (.aload_n 0, 1) := by decide +kernel
theorem kU_applySteps_d151 : decode prog_5_method_8_code 151 = .ok (.getfield 23, 3) := by decide +kernel
theorem kU_applySteps_d154 : decode prog_5_method_8_code 154 = .ok (.invokevirtual 147, 3) := by decide +kernel
theorem kU_applySteps_d157 : decode prog_5_method_8_code 157 = .ok (.return_, 1) := by decide +kernel
theorem kU_widen_d0 : decode prog_5_method_10_code 0 = .ok (.aload_n 0, 1) := by decide +kernel
theorem kU_widen_d1 : decode prog_5_method_10_code 1 = .ok (.iload_n 1, 1) := by decide +kernel
theorem kU_widen_d2 : decode prog_5_method_10_code 2 = .ok (.invokevirtual 150, 3) := by decide +kernel
theorem kU_widen_d5 : decode prog_5_method_10_code 5 = .ok (.aload_n 0, 1) := by decide +kernel
theorem kU_widen_d6 : decode prog_5_method_10_code 6 = .ok (.getfield 61, 3) := by decide +kernel
theorem kU_widen_d9 : decode prog_5_method_10_code 9 = .ok (.istore_n 2, 1) := by decide +kernel
theorem kU_widen_d10 : decode prog_5_method_10_code 10 = .ok (.iload_n 2, 1) := by decide +kernel
theorem kU_widen_d11 : decode prog_5_method_10_code 11 = .ok (.iload_n 1, 1) := by decide +kernel
theorem kU_widen_d12 : decode prog_5_method_10_code 12 = .ok (.if_icmp .ge 16, 3) := by decide +kernel
theorem kU_widen_d15 : decode prog_5_method_10_code 15 = .ok (.aload_n 0, 1) := by decide +kernel
theorem kU_widen_d16 : decode prog_5_method_10_code 16 = .ok (.getfield 141, 3) := by decide +kernel
theorem kU_widen_d19 : decode prog_5_method_10_code 19 = .ok (.iload_n 2, 1) := by decide +kernel
theorem kU_widen_d20 : decode prog_5_method_10_code 20 = .ok (.iconst 0, 1) := by decide +kernel
theorem kU_widen_d21 : decode prog_5_method_10_code 21 = .ok (.iastore, 1) := by decide +kernel
theorem kU_widen_d22 : decode prog_5_method_10_code 22 = .ok (.iinc 2 1, 3) := by decide +kernel
theorem kU_widen_d25 : decode prog_5_method_10_code 25 = .ok (.goto (-15), 3) := by decide +kernel
theorem kU_widen_d28 : decode prog_5_method_10_code 28 = .ok (.aload_n 0, 1) := by decide +kernel
theorem kU_widen_d29 : decode prog_5_method_10_code 29 = .ok (.iload_n 1, 1) := by decide +kernel
theorem kU_widen_d30 : decode prog_5_method_10_code 30 = .ok (.putfield 61, 3) := by decide +kernel
theorem kU_widen_d33 : decode prog_5_method_10_code 33 = .ok (.return_, 1) := by decide +kernel
theorem kU_applyStepsToFactors_d0 : decode prog_5_method_9_code 0 = .ok (.aload_n 0, 1) := by decide +kernel
theorem kU_applyStepsToFactors_d1 : decode prog_5_method_9_code 1 = .ok (.getfield 20, 3) := by decide +kernel
theorem kU_applyStepsToFactors_d4 : decode prog_5_method_9_code 4 = .ok (.getfield 61, 3) := by decide +kernel
theorem kU_applyStepsToFactors_d7 : decode prog_5_method_9_code 7 = .ok (.aload_n 0, 1) := by decide +kernel
theorem kU_applyStepsToFactors_d8 : decode prog_5_method_9_code 8 = .ok (.getfield 26, 3) := by decide +kernel
theorem kU_applyStepsToFactors_d11 : decode prog_5_method_9_code 11 = .ok (.getfield 61, 3) := by decide +kernel
theorem kU_applyStepsToFactors_d14 : decode prog_5_method_9_code 14 = .ok (.invokestatic 114, 3) := by decide +kernel
theorem kU_applyStepsToFactors_d17 : decode prog_5_method_9_code 17 = .ok (.iconst 1, 1) := by decide +kernel
theorem kU_applyStepsToFactors_d18 : decode prog_5_method_9_code 18 = .ok (.iadd, 1) := by decide +kernel
theorem kU_applyStepsToFactors_d19 : decode prog_5_method_9_code 19 = .ok (.istore_n 1, 1) := by decide +kernel
theorem kU_applyStepsToFactors_d20 : decode prog_5_method_9_code 20 = .ok (.aload_n 0, 1) := by decide +kernel
theorem kU_applyStepsToFactors_d21 : decode prog_5_method_9_code 21 = .ok (.getfield 20, 3) := by decide +kernel
theorem kU_applyStepsToFactors_d24 : decode prog_5_method_9_code 24 = .ok (.iload_n 1, 1) := by decide +kernel
theorem kU_applyStepsToFactors_d25 : decode prog_5_method_9_code 25 = .ok (.invokestatic 137, 3) := by decide +kernel
theorem kU_applyStepsToFactors_d28 : decode prog_5_method_9_code 28 = .ok (.aload_n 0, 1) := by decide +kernel
theorem kU_applyStepsToFactors_d29 : decode prog_5_method_9_code 29 = .ok (.getfield 26, 3) := by decide +kernel
theorem kU_applyStepsToFactors_d32 : decode prog_5_method_9_code 32 = .ok (.iload_n 1, 1) := by decide +kernel
theorem kU_applyStepsToFactors_d33 : decode prog_5_method_9_code 33 = .ok (.invokestatic 137, 3) := by decide +kernel
theorem kU_applyStepsToFactors_d36 : decode prog_5_method_9_code 36 = .ok (.aload_n 0, 1) := by decide +kernel
theorem kU_applyStepsToFactors_d37 : decode prog_5_method_9_code 37 = .ok (.getfield 20, 3) := by decide +kernel
theorem kU_applyStepsToFactors_d40 : decode prog_5_method_9_code 40 = .ok (.getfield 141, 3) := by decide +kernel
theorem kU_applyStepsToFactors_d43 : decode prog_5_method_9_code 43 = .ok (.astore_n 2, 1) := by decide +kernel
theorem kU_applyStepsToFactors_d44 : decode prog_5_method_9_code 44 = .ok (.aload_n 0, 1) := by decide +kernel
theorem kU_applyStepsToFactors_d45 : decode prog_5_method_9_code 45 = .ok (.getfield 26, 3) := by decide +kernel
theorem kU_applyStepsToFactors_d48 : decode prog_5_method_9_code 48 = .ok (.getfield 141, 3) := by decide +kernel
theorem kU_applyStepsToFactors_d51 : decode prog_5_method_9_code 51 = .ok (.astore_n 3, 1) := by decide +kernel
theorem kU_applyStepsToFactors_d52 : decode prog_5_method_9_code 52 = .ok (.aload_n 0, 1) := by decide +kernel
theorem kU_applyStepsToFactors_d53 : decode prog_5_method_9_code 53 = .ok (.getfield 101, 3) := by decide +kernel
theorem kU_applyStepsToFactors_d56 : decode prog_5_method_9_code 56 = .ok (.invokestatic 133, 3) := by decide +kernel
theorem kU_applyStepsToFactors_d59 : decode prog_5_method_9_code 59 = .ok (.lstore 4, 2) := by decide +kernel
theorem kU_applyStepsToFactors_d61 : decode prog_5_method_9_code 61 = .ok (.aload_n 0, 1) := by decide +kernel
theorem kU_applyStepsToFactors_d62 : decode prog_5_method_9_code 62 = .ok (.getfield 68, 3) := by decide +kernel
theorem kU_applyStepsToFactors_d65 : decode prog_5_method_9_code 65 = .ok (.invokestatic 133, 3) := by decide +kernel
theorem kU_applyStepsToFactors_d68 : decode prog_5_method_9_code 68 = .ok (.lstore 6, 2) := by decide +kernel
theorem kU_applyStepsToFactors_d70 : decode prog_5_method_9_code 70 = .ok (.aload_n 0, 1) := by decide +kernel
theorem kU_applyStepsToFactors_d71 : decode prog_5_method_9_code 71 = .ok (.getfield 104, 3) := by decide +kernel
theorem kU_applyStepsToFactors_d74 : decode prog_5_method_9_code 74 = .ok (.invokestatic 133, 3) := by decide +kernel
theorem kU_applyStepsToFactors_d77 : decode prog_5_method_9_code 77 = .ok (.lstore 8, 2) := by decide +kernel
theorem kU_applyStepsToFactors_d79 : decode prog_5_method_9_code 79 = .ok (.aload_n 0, 1) := by decide +kernel
theorem kU_applyStepsToFactors_d80 : decode prog_5_method_9_code 80 = .ok (.getfield 107, 3) := by decide +kernel
theorem kU_applyStepsToFactors_d83 : decode prog_5_method_9_code 83 = .ok (.invokestatic 133, 3) := by decide +kernel
theorem kU_applyStepsToFactors_d86 : decode prog_5_method_9_code 86 = .ok (.lstore 10, 2) := by decide +kernel
theorem kU_applyStepsToFactors_d88 : decode prog_5_method_9_code 88 = .ok (.lconst 0, 1) := by decide +kernel
theorem kU_applyStepsToFactors_d89 : decode prog_5_method_9_code 89 = .ok (.lstore 12, 2) := by decide +kernel
theorem kU_applyStepsToFactors_d91 : decode prog_5_method_9_code 91 = .ok (.lconst 0, 1) := by decide +kernel
theorem kU_applyStepsToFactors_d92 : decode prog_5_method_9_code 92 = .ok (.lstore 14, 2) := by decide +kernel
theorem kU_applyStepsToFactors_d94 : decode prog_5_method_9_code 94 = .ok (.iconst 0, 1) := by decide +kernel
theorem kU_applyStepsToFactors_d95 : decode prog_5_method_9_code 95 = .ok (.istore 16, 2) := by decide +kernel
theorem kU_applyStepsToFactors_d97 : decode prog_5_method_9_code 97 = .ok (.iload 16, 2) := by decide +kernel
theorem kU_applyStepsToFactors_d99 : decode prog_5_method_9_code 99 = .ok (.iload_n 1, 1) := by decide +kernel
theorem kU_applyStepsToFactors_d100 : decode prog_5_method_9_code 100 = .ok (.if_icmp .ge 91, 3) := by decide +kernel
theorem kU_applyStepsToFactors_d103 : decode prog_5_method_9_code 103 = .ok (.aload_n 2, 1) := by decide +kernel
theorem kU_applyStepsToFactors_d104 : decode prog_5_method_9_code 104 = .ok (.iload 16, 2) := by decide +kernel
theorem kU_applyStepsToFactors_d106 : decode prog_5_method_9_code 106 = .ok (.iaload, 1) := by decide +kernel
theorem kU_applyStepsToFactors_d107 : decode prog_5_method_9_code 107 = .ok (.i2l, 1) := by decide +kernel
theorem kU_applyStepsToFactors_d108 : decode prog_5_method_9_code 108 = .ok (.ldc2_w 145, 3) := by decide +kernel
theorem kU_applyStepsToFactors_d111 : decode prog_5_method_9_code 111 = .ok (.land, 1) := by decide +kernel
theorem kU_applyStepsToFactors_d112 : decode prog_5_method_9_code 112 = .ok (.lstore 17, 2) := by decide +kernel
theorem kU_applyStepsToFactors_d114 : decode prog_5_method_9_code 114 = .ok (.aload_n 3, 1) := by decide +kernel
theorem kU_applyStepsToFactors_d115 : decode prog_5_method_9_code 115 = .ok (.iload 16, 2) := by decide +kernel
theorem kU_applyStepsToFactors_d117 : decode prog_5_method_9_code 117 = .ok (.iaload, 1) := by decide +kernel
theorem kU_applyStepsToFactors_d118 : decode prog_5_method_9_code 118 = .ok (.i2l, 1) := by decide +kernel
theorem kU_applyStepsToFactors_d119 : decode prog_5_method_9_code 119 = .ok (.ldc2_w 145, 3) := by decide +kernel
theorem kU_applyStepsToFactors_d122 : decode prog_5_method_9_code 122 = .ok (.land, 1) := by decide +kernel
theorem kU_applyStepsToFactors_d123 : decode prog_5_method_9_code 123 = .ok (.lstore 19, 2) := by decide +kernel
theorem kU_applyStepsToFactors_d125 : decode prog_5_method_9_code 125 = .ok (.lload 12, 2) := by decide +kernel
theorem kU_applyStepsToFactors_d127 : decode prog_5_method_9_code 127 = .ok (.lload 4, 2) := by decide +kernel
theorem kU_applyStepsToFactors_d129 : decode prog_5_method_9_code 129 = .ok (.lload 17, 2) := by decide +kernel
theorem kU_applyStepsToFactors_d131 : decode prog_5_method_9_code 131 = .ok (.lmul, 1) := by decide +kernel
theorem kU_applyStepsToFactors_d132 : decode prog_5_method_9_code 132 = .ok (.lload 6, 2) := by decide +kernel
theorem kU_applyStepsToFactors_d134 : decode prog_5_method_9_code 134 = .ok (.lload 19, 2) := by decide +kernel
theorem kU_applyStepsToFactors_d136 : decode prog_5_method_9_code 136 = .ok (.lmul, 1) := by decide +kernel
theorem kU_applyStepsToFactors_d137 : decode prog_5_method_9_code 137 = .ok (.ladd, 1) := by decide +kernel
theorem kU_applyStepsToFactors_d138 : decode prog_5_method_9_code 138 = .ok (.ladd, 1) := by decide +kernel
theorem kU_applyStepsToFactors_d139 : decode prog_5_method_9_code 139 = .ok (.lstore 12, 2) := by decide +kernel
theorem kU_applyStepsToFactors_d141 : decode prog_5_method_9_code 141 = .ok (.lload 14, 2) := by decide +kernel
theorem kU_applyStepsToFactors_d143 : decode prog_5_method_9_code 143 = .ok (.lload 8, 2) := by decide +kernel
theorem kU_applyStepsToFactors_d145 : decode prog_5_method_9_code 145 = .ok (.lload 17, 2) := by decide +kernel
theorem kU_applyStepsToFactors_d147 : decode prog_5_method_9_code 147 = .ok (.lmul, 1) := by decide +kernel
theorem kU_applyStepsToFactors_d148 : decode prog_5_method_9_code 148 = .ok (.lload 10, 2) := by decide +kernel
theorem kU_applyStepsToFactors_d150 : decode prog_5_method_9_code 150 = .ok (.lload 19, 2) := by decide +kernel
theorem kU_applyStepsToFactors_d152 : decode prog_5_method_9_code 152 = .ok (.lmul, 1) := by decide +kernel
theorem kU_applyStepsToFactors_d153 : decode prog_5_method_9_code 153 = .ok (.ladd, 1) := by decide +kernel
theorem kU_applyStepsToFactors_d154 : decode prog_5_method_9_code 154 = .ok (.ladd, 1) := by decide +kernel
theorem kU_applyStepsToFactors_d155 : decode prog_5_method_9_code 155 = .ok (.lstore 14, 2) := by decide +kernel
theorem kU_applyStepsToFactors_d157 : decode prog_5_method_9_code 157 = .ok (.aload_n 2, 1) := by decide +kernel
theorem kU_applyStepsToFactors_d158 : decode prog_5_method_9_code 158 = .ok (.iload 16, 2) := by decide +kernel
theorem kU_applyStepsToFactors_d160 : decode prog_5_method_9_code 160 = .ok (.lload 12, 2) := by decide +kernel
theorem kU_applyStepsToFactors_d162 : decode prog_5_method_9_code 162 = .ok (.l2i, 1) := by decide +kernel
theorem kU_applyStepsToFactors_d163 : decode prog_5_method_9_code 163 = .ok (.iastore, 1) := by decide +kernel
theorem kU_applyStepsToFactors_d164 : decode prog_5_method_9_code 164 = .ok (.aload_n 3, 1) := by decide +kernel
theorem kU_applyStepsToFactors_d165 : decode prog_5_method_9_code 165 = .ok (.iload 16, 2) := by decide +kernel
theorem kU_applyStepsToFactors_d167 : decode prog_5_method_9_code 167 = .ok (.lload 14, 2) := by decide +kernel
theorem kU_applyStepsToFactors_d169 : decode prog_5_method_9_code 169 = .ok (.l2i, 1) := by decide +kernel
theorem kU_applyStepsToFactors_d170 : decode prog_5_method_9_code 170 = .ok (.iastore, 1) := by decide +kernel
theorem kU_applyStepsToFactors_d171 : decode prog_5_method_9_code 171 = .ok (.lload 12, 2) := by decide +kernel
theorem kU_applyStepsToFactors_d173 : decode prog_5_method_9_code 173 = .ok (.bipush 32, 2) := by decide +kernel
theorem kU_applyStepsToFactors_d175 : decode prog_5_method_9_code 175 = .ok (.lushr, 1) := by decide +kernel
theorem kU_applyStepsToFactors_d176 : decode prog_5_method_9_code 176 = .ok (.lstore 12, 2) := by decide +kernel
theorem kU_applyStepsToFactors_d178 : decode prog_5_method_9_code 178 = .ok (.lload 14, 2) := by decide +kernel
theorem kU_applyStepsToFactors_d180 : decode prog_5_method_9_code 180 = .ok (.bipush 32, 2) := by decide +kernel
theorem kU_applyStepsToFactors_d182 : decode prog_5_method_9_code 182 = .ok (.lushr, 1) := by decide +kernel
theorem kU_applyStepsToFactors_d183 : decode prog_5_method_9_code 183 = .ok (.lstore 14, 2) := by decide +kernel
theorem kU_applyStepsToFactors_d185 : decode prog_5_method_9_code 185 = .ok (.iinc 16 1, 3) := by decide +kernel
theorem kU_applyStepsToFactors_d188 : decode prog_5_method_9_code 188 = .ok (.goto (-91), 3) := by decide +kernel
theorem kU_applyStepsToFactors_d191 : decode prog_5_method_9_code 191 = .ok (.aload_n 0, 1) := by decide +kernel
theorem kU_applyStepsToFactors_d192 : decode prog_5_method_9_code 192 = .ok (.getfield 20, 3) := by decide +kernel
theorem kU_applyStepsToFactors_d195 : decode prog_5_method_9_code 195 = .ok (.invokevirtual 147, 3) := by decide +kernel
theorem kU_applyStepsToFactors_d198 : decode prog_5_method_9_code 198 = .ok (.aload_n 0, 1) := by decide +kernel
theorem kU_applyStepsToFactors_d199 : decode prog_5_method_9_code 199 = .ok (.getfield 26, 3) := by decide +kernel
theorem kU_applyStepsToFactors_d202 : decode prog_5_method_9_code 202 = .ok (.invokevirtual 147, 3) := by decide +kernel
theorem kU_applyStepsToFactors_d205 : decode prog_5_method_9_code 205 = .ok (.return_, 1) := by decide +kernel
