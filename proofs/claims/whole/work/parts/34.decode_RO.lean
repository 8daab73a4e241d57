/-! decode rows of Forms -/
theorem kRO_init_d0 : decode prog_12_method_1_code 0 = .ok (.aload_n 0, 1) := by decide +kernel
theorem kRO_init_d1 : decode prog_12_method_1_code 1 = .ok (.invokespecial 3, 3) := by decide +kernel
theorem kRO_init_d4 : decode prog_12_method_1_code 4 = .ok (.aload_n 0, 1) := by decide +kernel
theorem kRO_init_d5 : decode prog_12_method_1_code 5 = .ok (.bipush 64, 2) := by decide +kernel
theorem kRO_init_d7 : decode prog_12_method_1_code 7 = .ok (.newarray .int, 2) := by decide +kernel
theorem kRO_init_d9 : decode prog_12_method_1_code 9 = .ok (.putfield 9, 3) := by decide +kernel
theorem kRO_init_d12 : decode prog_12_method_1_code 12 = .ok (.aload_n 0, 1) := by decide +kernel
theorem kRO_init_d13 : decode prog_12_method_1_code 13 = .ok (.bipush 64, 2) := by decide +kernel
theorem kRO_init_d15 : decode prog_12_method_1_code 15 = .ok (.newarray .int, 2) := by decide +kernel
theorem kRO_init_d17 : decode prog_12_method_1_code 17 = .ok (.putfield 15, 3) := by decide +kernel
theorem kRO_init_d20 : decode prog_12_method_1_code 20 = .ok (.aload_n 0, 1) := by decide +kernel
theorem kRO_init_d21 : decode prog_12_method_1_code 21 = .ok (.aload_n 1, 1) := by decide +kernel
theorem kRO_init_d22 : decode prog_12_method_1_code 22 = .ok (.putfield 18, 3) := by decide +kernel
theorem kRO_init_d25 : decode prog_12_method_1_code 25 = .ok (.aload_n 0, 1) := by decide +kernel
theorem kRO_init_d26 : decode prog_12_method_1_code 26 = .ok (.aload_n 1, 1) := by decide +kernel
theorem kRO_init_d27 : decode prog_12_method_1_code 27 = .ok (.getfield 22, 3) := by decide +kernel
theorem kRO_init_d30 : decode prog_12_method_1_code 30 = .ok (.putfield 28, 3) := by decide +kernel
theorem kRO_init_d33 : decode prog_12_method_1_code 33 = .ok (.return_, 1) := by decide +kernel
theorem kRO_echelon_d0 : decode prog_12_method_2_code 0 = .ok (.aload_n 0, 1) := by decide +kernel
theorem kRO_echelon_d1 : decode prog_12_method_2_code 1 = .ok (.getfield 28, 3) := by decide +kernel
theorem kRO_echelon_d4 : decode prog_12_method_2_code 4 = .ok (.getfield 29, 3) := by decide +kernel
theorem kRO_echelon_d7 : decode prog_12_method_2_code 7 = .ok (.istore_n 2, 1) := by decide +kernel
theorem kRO_echelon_d8 : decode prog_12_method_2_code 8 = .ok (.aload_n 0, 1) := by decide +kernel
theorem kRO_echelon_d9 : decode prog_12_method_2_code 9 = .ok (.getfield 18, 3) := by decide +kernel
theorem kRO_echelon_d12 : decode prog_12_method_2_code 12 = .ok (.aload_n 0, 1) := by decide +kernel
theorem kRO_echelon_d13 : decode prog_12_method_2_code 13 = .ok (.getfield 18, 3) := by decide +kernel
theorem kRO_echelon_d16 : decode prog_12_method_2_code 16 = .ok (.iload_n 1, 1) := by decide +kernel
theorem kRO_echelon_d17 : decode prog_12_method_2_code 17 = .ok (.invokevirtual 35, 3) := by decide +kernel
theorem kRO_echelon_d20 : decode prog_12_method_2_code 20 = .ok (.iload_n 2, 1) := by decide +kernel
theorem kRO_echelon_d21 : decode prog_12_method_2_code 21 = .ok (.aload_n 0, 1) := by decide +kernel
theorem kRO_echelon_d22 : decode prog_12_method_2_code 22 = .ok (.getfield 18, 3) := by decide +kernel
theorem kRO_echelon_d25 : decode prog_12_method_2_code 25 = .ok (.iload_n 1, 1) := by decide +kernel
theorem kRO_echelon_d26 : decode prog_12_method_2_code 26 = .ok (.invokevirtual 39, 3) := by decide +kernel
theorem kRO_echelon_d29 : decode prog_12_method_2_code 29 = .ok (.invokevirtual 42, 3) := by decide +kernel
theorem kRO_echelon_d32 : decode prog_12_method_2_code 32 = .ok (.ireturn, 1) := by decide +kernel
theorem kRO_kernel_d0 : decode prog_12_method_4_code 0 = .ok (.aload_n 0, 1) := by decide +kernel
theorem kRO_kernel_d1 : decode prog_12_method_4_code 1 = .ok (.getfield 28, 3) := by decide +kernel
theorem kRO_kernel_d4 : decode prog_12_method_4_code 4 = .ok (.getfield 29, 3) := by decide +kernel
theorem kRO_kernel_d7 : decode prog_12_method_4_code 7 = .ok (.istore_n 2, 1) := by decide +kernel
theorem kRO_kernel_d8 : decode prog_12_method_4_code 8 = .ok (.aload_n 0, 1) := by decide +kernel
theorem kRO_kernel_d9 : decode prog_12_method_4_code 9 = .ok (.getfield 18, 3) := by decide +kernel
theorem kRO_kernel_d12 : decode prog_12_method_4_code 12 = .ok (.getfield 46, 3) := by decide +kernel
theorem kRO_kernel_d15 : decode prog_12_method_4_code 15 = .ok (.istore_n 3, 1) := by decide +kernel
theorem kRO_kernel_d16 : decode prog_12_method_4_code 16 = .ok (.aload_n 0, 1) := by decide +kernel
theorem kRO_kernel_d17 : decode prog_12_method_4_code 17 = .ok (.getfield 18, 3) := by decide +kernel
theorem kRO_kernel_d20 : decode prog_12_method_4_code 20 = .ok (.iload_n 1, 1) := by decide +kernel
theorem kRO_kernel_d21 : decode prog_12_method_4_code 21 = .ok (.invokevirtual 39, 3) := by decide +kernel
theorem kRO_kernel_d24 : decode prog_12_method_4_code 24 = .ok (.istore 4, 2) := by decide +kernel
theorem kRO_kernel_d26 : decode prog_12_method_4_code 26 = .ok (.aload_n 0, 1) := by decide +kernel
theorem kRO_kernel_d27 : decode prog_12_method_4_code 27 = .ok (.iload_n 1, 1) := by decide +kernel
theorem kRO_kernel_d28 : decode prog_12_method_4_code 28 = .ok (.invokevirtual 50, 3) := by decide +kernel
theorem kRO_kernel_d31 : decode prog_12_method_4_code 31 = .ok (.istore 5, 2) := by decide +kernel
theorem kRO_kernel_d33 : decode prog_12_method_4_code 33 = .ok (.iload 4, 2) := by decide +kernel
theorem kRO_kernel_d35 : decode prog_12_method_4_code 35 = .ok (.aload_n 0, 1) := by decide +kernel
theorem kRO_kernel_d36 : decode prog_12_method_4_code 36 = .ok (.getfield 18, 3) := by decide +kernel
theorem kRO_kernel_d39 : decode prog_12_method_4_code 39 = .ok (.getfield 47, 3) := by decide +kernel
theorem kRO_kernel_d42 : decode prog_12_method_4_code 42 = .ok (.isub, 1) := by decide +kernel
theorem kRO_kernel_d43 : decode prog_12_method_4_code 43 = .ok (.istore 6, 2) := by decide +kernel
theorem kRO_kernel_d45 : decode prog_12_method_4_code 45 = .ok (.iload 6, 2) := by decide +kernel
theorem kRO_kernel_d47 : decode prog_12_method_4_code 47 = .ok (.ifCond .ne 21, 3) := by decide +kernel
theorem kRO_kernel_d50 : decode prog_12_method_4_code 50 = .ok (.aload_n 0, 1) := by decide +kernel
theorem kRO_kernel_d51 : decode prog_12_method_4_code 51 = .ok (.getfield 28, 3) := by decide +kernel
theorem kRO_kernel_d54 : decode prog_12_method_4_code 54 = .ok (.iload_n 2, 1) := by decide +kernel
theorem kRO_kernel_d55 : decode prog_12_method_4_code 55 = .ok (.putfield 29, 3) := by decide +kernel
theorem kRO_kernel_d58 : decode prog_12_method_4_code 58 = .ok (.aload_n 0, 1) := by decide +kernel
theorem kRO_kernel_d59 : decode prog_12_method_4_code 59 = .ok (.getfield 18, 3) := by decide +kernel
theorem kRO_kernel_d62 : decode prog_12_method_4_code 62 = .ok (.iload_n 3, 1) := by decide +kernel
theorem kRO_kernel_d63 : decode prog_12_method_4_code 63 = .ok (.putfield 46, 3) := by decide +kernel
theorem kRO_kernel_d66 : decode prog_12_method_4_code 66 = .ok (.iconst (-1), 1) := by decide +kernel
theorem kRO_kernel_d67 : decode prog_12_method_4_code 67 = .ok (.ireturn, 1) := by decide +kernel
theorem kRO_kernel_d68 : decode prog_12_method_4_code 68 = .ok (.aload_n 0, 1) := by decide +kernel
theorem kRO_kernel_d69 : decode prog_12_method_4_code 69 = .ok (.getfield 28, 3) := by decide +kernel
theorem kRO_kernel_d72 : decode prog_12_method_4_code 72 = .ok (.getfield 29, 3) := by decide +kernel
theorem kRO_kernel_d75 : decode prog_12_method_4_code 75 = .ok (.istore 7, 2) := by decide +kernel
theorem kRO_kernel_d77 : decode prog_12_method_4_code 77 = .ok (.aload_n 0, 1) := by decide +kernel
theorem kRO_kernel_d78 : decode prog_12_method_4_code 78 = .ok (.getfield 18, 3) := by decide +kernel
theorem kRO_kernel_d81 : decode prog_12_method_4_code 81 = .ok (.iload 6, 2) := by decide +kernel
theorem kRO_kernel_d83 : decode prog_12_method_4_code 83 = .ok (.iload 4, 2) := by decide +kernel
theorem kRO_kernel_d85 : decode prog_12_method_4_code 85 = .ok (.invokevirtual 52, 3) := by decide +kernel
theorem kRO_kernel_d88 : decode prog_12_method_4_code 88 = .ok (.istore 8, 2) := by decide +kernel
theorem kRO_kernel_d90 : decode prog_12_method_4_code 90 = .ok (.iconst 0, 1) := by decide +kernel
theorem kRO_kernel_d91 : decode prog_12_method_4_code 91 = .ok (.istore 9, 2) := by decide +kernel
theorem kRO_kernel_d93 : decode prog_12_method_4_code 93 = .ok (.iconst 0, 1) := by decide +kernel
theorem kRO_kernel_d94 : decode prog_12_method_4_code 94 = .ok (.istore 10, 2) := by decide +kernel
theorem kRO_kernel_d96 : decode prog_12_method_4_code 96 = .ok (.iload 10, 2) := by decide +kernel
theorem kRO_kernel_d98 : decode prog_12_method_4_code 98 = .ok (.iload 4, 2) := by decide +kernel
theorem kRO_kernel_d100 : decode prog_12_method_4_code 100 = .ok (.if_icmp .ge 171, 3) := by decide +kernel
theorem kRO_kernel_d103 : decode prog_12_method_4_code 103 = .ok (.aload_n 0, 1) := by decide +kernel
theorem kRO_kernel_d104 : decode prog_12_method_4_code 104 = .ok (.iload 10, 2) := by decide +kernel
theorem kRO_kernel_d106 : decode prog_12_method_4_code 106 = .ok (.invokevirtual 56, 3) := by decide +kernel
theorem kRO_kernel_d109 : decode prog_12_method_4_code 109 = .ok (.ifCond .lt 6, 3) := by decide +kernel
theorem kRO_kernel_d112 : decode prog_12_method_4_code 112 = .ok (.goto 153, 3) := by decide +kernel
theorem kRO_kernel_d115 : decode prog_12_method_4_code 115 = .ok (.iconst 0, 1) := by decide +kernel
theorem kRO_kernel_d116 : decode prog_12_method_4_code 116 = .ok (.istore 11, 2) := by decide +kernel
theorem kRO_kernel_d118 : decode prog_12_method_4_code 118 = .ok (.iload 11, 2) := by decide +kernel
theorem kRO_kernel_d120 : decode prog_12_method_4_code 120 = .ok (.iload 4, 2) := by decide +kernel
theorem kRO_kernel_d122 : decode prog_12_method_4_code 122 = .ok (.if_icmp .ge 140, 3) := by decide +kernel
theorem kRO_kernel_d125 : decode prog_12_method_4_code 125 = .ok (.aload_n 0, 1) := by decide +kernel
theorem kRO_kernel_d126 : decode prog_12_method_4_code 126 = .ok (.iload 11, 2) := by decide +kernel
theorem kRO_kernel_d128 : decode prog_12_method_4_code 128 = .ok (.invokevirtual 56, 3) := by decide +kernel
theorem kRO_kernel_d131 : decode prog_12_method_4_code 131 = .ok (.istore 12, 2) := by decide +kernel
theorem kRO_kernel_d133 : decode prog_12_method_4_code 133 = .ok (.iload 12, 2) := by decide +kernel
theorem kRO_kernel_d135 : decode prog_12_method_4_code 135 = .ok (.ifCond .lt 85, 3) := by decide +kernel
theorem kRO_kernel_d138 : decode prog_12_method_4_code 138 = .ok (.iload 12, 2) := by decide +kernel
theorem kRO_kernel_d140 : decode prog_12_method_4_code 140 = .ok (.iload 4, 2) := by decide +kernel
theorem kRO_kernel_d142 : decode prog_12_method_4_code 142 = .ok (.imul, 1) := by decide +kernel
theorem kRO_kernel_d143 : decode prog_12_method_4_code 143 = .ok (.iload 10, 2) := by decide +kernel
theorem kRO_kernel_d145 : decode prog_12_method_4_code 145 = .ok (.iadd, 1) := by decide +kernel
theorem kRO_kernel_d146 : decode prog_12_method_4_code 146 = .ok (.istore 13, 2) := by decide +kernel
theorem kRO_kernel_d148 : decode prog_12_method_4_code 148 = .ok (.aload_n 0, 1) := by decide +kernel
theorem kRO_kernel_d149 : decode prog_12_method_4_code 149 = .ok (.getfield 18, 3) := by decide +kernel
theorem kRO_kernel_d152 : decode prog_12_method_4_code 152 = .ok (.aload_n 0, 1) := by decide +kernel
theorem kRO_kernel_d153 : decode prog_12_method_4_code 153 = .ok (.getfield 28, 3) := by decide +kernel
theorem kRO_kernel_d156 : decode prog_12_method_4_code 156 = .ok (.aload_n 0, 1) := by decide +kernel
theorem kRO_kernel_d157 : decode prog_12_method_4_code 157 = .ok (.getfield 18, 3) := by decide +kernel
theorem kRO_kernel_d160 : decode prog_12_method_4_code 160 = .ok (.iload 5, 2) := by decide +kernel
theorem kRO_kernel_d162 : decode prog_12_method_4_code 162 = .ok (.iload 13, 2) := by decide +kernel
theorem kRO_kernel_d164 : decode prog_12_method_4_code 164 = .ok (.invokevirtual 59, 3) := by decide +kernel
theorem kRO_kernel_d167 : decode prog_12_method_4_code 167 = .ok (.invokevirtual 62, 3) := by decide +kernel
theorem kRO_kernel_d170 : decode prog_12_method_4_code 170 = .ok (.putfield 65, 3) := by decide +kernel
theorem kRO_kernel_d173 : decode prog_12_method_4_code 173 = .ok (.aload_n 0, 1) := by decide +kernel
theorem kRO_kernel_d174 : decode prog_12_method_4_code 174 = .ok (.getfield 18, 3) := by decide +kernel
theorem kRO_kernel_d177 : decode prog_12_method_4_code 177 = .ok (.aload_n 0, 1) := by decide +kernel
theorem kRO_kernel_d178 : decode prog_12_method_4_code 178 = .ok (.getfield 18, 3) := by decide +kernel
theorem kRO_kernel_d181 : decode prog_12_method_4_code 181 = .ok (.iload 5, 2) := by decide +kernel
theorem kRO_kernel_d183 : decode prog_12_method_4_code 183 = .ok (.iload 13, 2) := by decide +kernel
theorem kRO_kernel_d185 : decode prog_12_method_4_code 185 = .ok (.invokevirtual 68, 3) := by decide +kernel
theorem kRO_kernel_d188 : decode prog_12_method_4_code 188 = .ok (.iconst 1, 1) := by decide +kernel
theorem kRO_kernel_d189 : decode prog_12_method_4_code 189 = .ok (.if_icmp .ne 7, 3) := by decide +kernel
theorem kRO_kernel_d192 : decode prog_12_method_4_code 192 = .ok (.iconst 1, 1) := by decide +kernel
theorem kRO_kernel_d193 : decode prog_12_method_4_code 193 = .ok (.goto 21, 3) := by decide +kernel
theorem kRO_kernel_d196 : decode prog_12_method_4_code 196 = .ok (.aload_n 0, 1) := by decide +kernel
theorem kRO_kernel_d197 : decode prog_12_method_4_code 197 = .ok (.getfield 28, 3) := by decide +kernel
theorem kRO_kernel_d200 : decode prog_12_method_4_code 200 = .ok (.aload_n 0, 1) := by decide +kernel
theorem kRO_kernel_d201 : decode prog_12_method_4_code 201 = .ok (.getfield 18, 3) := by decide +kernel
theorem kRO_kernel_d204 : decode prog_12_method_4_code 204 = .ok (.iload 5, 2) := by decide +kernel
theorem kRO_kernel_d206 : decode prog_12_method_4_code 206 = .ok (.iload 13, 2) := by decide +kernel
theorem kRO_kernel_d208 : decode prog_12_method_4_code 208 = .ok (.invokevirtual 68, 3) := by decide +kernel
theorem kRO_kernel_d211 : decode prog_12_method_4_code 211 = .ok (.invokevirtual 71, 3) := by decide +kernel
theorem kRO_kernel_d214 : decode prog_12_method_4_code 214 = .ok (.putfield 72, 3) := by decide +kernel
theorem kRO_kernel_d217 : decode prog_12_method_4_code 217 = .ok (.goto 22, 3) := by decide +kernel
theorem kRO_kernel_d220 : decode prog_12_method_4_code 220 = .ok (.aload_n 0, 1) := by decide +kernel
theorem kRO_kernel_d221 : decode prog_12_method_4_code 221 = .ok (.getfield 18, 3) := by decide +kernel
theorem kRO_kernel_d224 : decode prog_12_method_4_code 224 = .ok (.iload 11, 2) := by decide +kernel
theorem kRO_kernel_d226 : decode prog_12_method_4_code 226 = .ok (.iload 10, 2) := by decide +kernel
theorem kRO_kernel_d228 : decode prog_12_method_4_code 228 = .ok (.if_icmp .ne 7, 3) := by decide +kernel
theorem kRO_kernel_d231 : decode prog_12_method_4_code 231 = .ok (.lconst 1, 1) := by decide +kernel
theorem kRO_kernel_d232 : decode prog_12_method_4_code 232 = .ok (.goto 4, 3) := by decide +kernel
theorem kRO_kernel_d235 : decode prog_12_method_4_code 235 = .ok (.lconst 0, 1) := by decide +kernel
theorem kRO_kernel_d236 : decode prog_12_method_4_code 236 = .ok (.invokevirtual 75, 3) := by decide +kernel
theorem kRO_kernel_d239 : decode prog_12_method_4_code 239 = .ok (.aload_n 0, 1) := by decide +kernel
theorem kRO_kernel_d240 : decode prog_12_method_4_code 240 = .ok (.getfield 18, 3) := by decide +kernel
theorem kRO_kernel_d243 : decode prog_12_method_4_code 243 = .ok (.iload 8, 2) := by decide +kernel
theorem kRO_kernel_d245 : decode prog_12_method_4_code 245 = .ok (.iload 9, 2) := by decide +kernel
theorem kRO_kernel_d247 : decode prog_12_method_4_code 247 = .ok (.iload 4, 2) := by decide +kernel
theorem kRO_kernel_d249 : decode prog_12_method_4_code 249 = .ok (.imul, 1) := by decide +kernel
theorem kRO_kernel_d250 : decode prog_12_method_4_code 250 = .ok (.iload 11, 2) := by decide +kernel
theorem kRO_kernel_d252 : decode prog_12_method_4_code 252 = .ok (.iadd, 1) := by decide +kernel
theorem kRO_kernel_d253 : decode prog_12_method_4_code 253 = .ok (.invokevirtual 79, 3) := by decide +kernel
theorem kRO_kernel_d256 : decode prog_12_method_4_code 256 = .ok (.iinc 11 1, 3) := by decide +kernel
theorem kRO_kernel_d259 : decode prog_12_method_4_code 259 = .ok (.goto (-141), 3) := by decide +kernel
theorem kRO_kernel_d262 : decode prog_12_method_4_code 262 = .ok (.iinc 9 1, 3) := by decide +kernel
theorem kRO_kernel_d265 : decode prog_12_method_4_code 265 = .ok (.iinc 10 1, 3) := by decide +kernel
theorem kRO_kernel_d268 : decode prog_12_method_4_code 268 = .ok (.goto (-172), 3) := by decide +kernel
theorem kRO_kernel_d271 : decode prog_12_method_4_code 271 = .ok (.aload_n 0, 1) := by decide +kernel
theorem kRO_kernel_d272 : decode prog_12_method_4_code 272 = .ok (.getfield 18, 3) := by decide +kernel
theorem kRO_kernel_d275 : decode prog_12_method_4_code 275 = .ok (.iload_n 2, 1) := by decide +kernel
theorem kRO_kernel_d276 : decode prog_12_method_4_code 276 = .ok (.iload_n 3, 1) := by decide +kernel
theorem kRO_kernel_d277 : decode prog_12_method_4_code 277 = .ok (.iload 7, 2) := by decide +kernel
theorem kRO_kernel_d279 : decode prog_12_method_4_code 279 = .ok (.iload 8, 2) := by decide +kernel
theorem kRO_kernel_d281 : decode prog_12_method_4_code 281 = .ok (.invokevirtual 83, 3) := by decide +kernel
theorem kRO_kernel_d284 : decode prog_12_method_4_code 284 = .ok (.istore 10, 2) := by decide +kernel
theorem kRO_kernel_d286 : decode prog_12_method_4_code 286 = .ok (.aload_n 0, 1) := by decide +kernel
theorem kRO_kernel_d287 : decode prog_12_method_4_code 287 = .ok (.getfield 18, 3) := by decide +kernel
theorem kRO_kernel_d290 : decode prog_12_method_4_code 290 = .ok (.iload 10, 2) := by decide +kernel
theorem kRO_kernel_d292 : decode prog_12_method_4_code 292 = .ok (.iload_n 2, 1) := by decide +kernel
theorem kRO_kernel_d293 : decode prog_12_method_4_code 293 = .ok (.iload 4, 2) := by decide +kernel
theorem kRO_kernel_d295 : decode prog_12_method_4_code 295 = .ok (.invokevirtual 42, 3) := by decide +kernel
theorem kRO_kernel_d298 : decode prog_12_method_4_code 298 = .ok (.ireturn, 1) := by decide +kernel
theorem kRO_pivotOf_d0 : decode prog_12_method_5_code 0 = .ok (.iconst 0, 1) := by decide +kernel
theorem kRO_pivotOf_d1 : decode prog_12_method_5_code 1 = .ok (.istore_n 2, 1) := by decide +kernel
theorem kRO_pivotOf_d2 : decode prog_12_method_5_code 2 = .ok (.iload_n 2, 1) := by decide +kernel
theorem kRO_pivotOf_d3 : decode prog_12_method_5_code 3 = .ok (.aload_n 0, 1) := by decide +kernel
theorem kRO_pivotOf_d4 : decode prog_12_method_5_code 4 = .ok (.getfield 18, 3) := by decide +kernel
theorem kRO_pivotOf_d7 : decode prog_12_method_5_code 7 = .ok (.getfield 47, 3) := by decide +kernel
theorem kRO_pivotOf_d10 : decode prog_12_method_5_code 10 = .ok (.if_icmp .ge 24, 3) := by decide +kernel
theorem kRO_pivotOf_d13 : decode prog_12_method_5_code 13 = .ok (.aload_n 0, 1) := by decide +kernel
theorem kRO_pivotOf_d14 : decode prog_12_method_5_code 14 = .ok (.getfield 18, 3) := by decide +kernel
theorem kRO_pivotOf_d17 : decode prog_12_method_5_code 17 = .ok (.getfield 87, 3) := by decide +kernel
theorem kRO_pivotOf_d20 : decode prog_12_method_5_code 20 = .ok (.iload_n 2, 1) := by decide +kernel
theorem kRO_pivotOf_d21 : decode prog_12_method_5_code 21 = .ok (.iaload, 1) := by decide +kernel
theorem kRO_pivotOf_d22 : decode prog_12_method_5_code 22 = .ok (.iload_n 1, 1) := by decide +kernel
theorem kRO_pivotOf_d23 : decode prog_12_method_5_code 23 = .ok (.if_icmp .ne 5, 3) := by decide +kernel
theorem kRO_pivotOf_d26 : decode prog_12_method_5_code 26 = .ok (.iload_n 2, 1) := by decide +kernel
theorem kRO_pivotOf_d27 : decode prog_12_method_5_code 27 = .ok (.ireturn, 1) := by decide +kernel
theorem kRO_pivotOf_d28 : decode prog_12_method_5_code 28 = .ok (.iinc 2 1, 3) := by decide +kernel
theorem kRO_pivotOf_d31 : decode prog_12_method_5_code 31 = .ok (.goto (-29), 3) := by decide +kernel
theorem kRO_pivotOf_d34 : decode prog_12_method_5_code 34 = .ok (.iconst (-1), 1) := by decide +kernel
theorem kRO_pivotOf_d35 : decode prog_12_method_5_code 35 = .ok (.ireturn, 1) := by decide +kernel
theorem kRO_solve_d0 : decode prog_12_method_6_code 0 = .ok (.aload_n 0, 1) := by decide +kernel
theorem kRO_solve_d1 : decode prog_12_method_6_code 1 = .ok (.getfield 28, 3) := by decide +kernel
theorem kRO_solve_d4 : decode prog_12_method_6_code 4 = .ok (.getfield 29, 3) := by decide +kernel
theorem kRO_solve_d7 : decode prog_12_method_6_code 7 = .ok (.istore_n 3, 1) := by decide +kernel
theorem kRO_solve_d8 : decode prog_12_method_6_code 8 = .ok (.aload_n 0, 1) := by decide +kernel
theorem kRO_solve_d9 : decode prog_12_method_6_code 9 = .ok (.getfield 18, 3) := by decide +kernel
theorem kRO_solve_d12 : decode prog_12_method_6_code 12 = .ok (.getfield 46, 3) := by decide +kernel
theorem kRO_solve_d15 : decode prog_12_method_6_code 15 = .ok (.istore 4, 2) := by decide +kernel
theorem kRO_solve_d17 : decode prog_12_method_6_code 17 = .ok (.aload_n 0, 1) := by decide +kernel
theorem kRO_solve_d18 : decode prog_12_method_6_code 18 = .ok (.getfield 18, 3) := by decide +kernel
theorem kRO_solve_d21 : decode prog_12_method_6_code 21 = .ok (.iload_n 1, 1) := by decide +kernel
theorem kRO_solve_d22 : decode prog_12_method_6_code 22 = .ok (.invokevirtual 39, 3) := by decide +kernel
theorem kRO_solve_d25 : decode prog_12_method_6_code 25 = .ok (.istore 5, 2) := by decide +kernel
theorem kRO_solve_d27 : decode prog_12_method_6_code 27 = .ok (.aload_n 0, 1) := by decide +kernel
theorem kRO_solve_d28 : decode prog_12_method_6_code 28 = .ok (.getfield 18, 3) := by decide +kernel
theorem kRO_solve_d31 : decode prog_12_method_6_code 31 = .ok (.iload_n 2, 1) := by decide +kernel
theorem kRO_solve_d32 : decode prog_12_method_6_code 32 = .ok (.invokevirtual 39, 3) := by decide +kernel
theorem kRO_solve_d35 : decode prog_12_method_6_code 35 = .ok (.istore 6, 2) := by decide +kernel
theorem kRO_solve_d37 : decode prog_12_method_6_code 37 = .ok (.aload_n 0, 1) := by decide +kernel
theorem kRO_solve_d38 : decode prog_12_method_6_code 38 = .ok (.getfield 18, 3) := by decide +kernel
theorem kRO_solve_d41 : decode prog_12_method_6_code 41 = .ok (.aload_n 0, 1) := by decide +kernel
theorem kRO_solve_d42 : decode prog_12_method_6_code 42 = .ok (.getfield 18, 3) := by decide +kernel
theorem kRO_solve_d45 : decode prog_12_method_6_code 45 = .ok (.iload_n 1, 1) := by decide +kernel
theorem kRO_solve_d46 : decode prog_12_method_6_code 46 = .ok (.iload_n 2, 1) := by decide +kernel
theorem kRO_solve_d47 : decode prog_12_method_6_code 47 = .ok (.invokevirtual 90, 3) := by decide +kernel
theorem kRO_solve_d50 : decode prog_12_method_6_code 50 = .ok (.iload_n 3, 1) := by decide +kernel
theorem kRO_solve_d51 : decode prog_12_method_6_code 51 = .ok (.iload 5, 2) := by decide +kernel
theorem kRO_solve_d53 : decode prog_12_method_6_code 53 = .ok (.invokevirtual 42, 3) := by decide +kernel
theorem kRO_solve_d56 : decode prog_12_method_6_code 56 = .ok (.istore 7, 2) := by decide +kernel
theorem kRO_solve_d58 : decode prog_12_method_6_code 58 = .ok (.iconst 1, 1) := by decide +kernel
theorem kRO_solve_d59 : decode prog_12_method_6_code 59 = .ok (.istore 8, 2) := by decide +kernel
theorem kRO_solve_d61 : decode prog_12_method_6_code 61 = .ok (.aload_n 0, 1) := by decide +kernel
theorem kRO_solve_d62 : decode prog_12_method_6_code 62 = .ok (.getfield 18, 3) := by decide +kernel
theorem kRO_solve_d65 : decode prog_12_method_6_code 65 = .ok (.getfield 47, 3) := by decide +kernel
theorem kRO_solve_d68 : decode prog_12_method_6_code 68 = .ok (.istore 9, 2) := by decide +kernel
theorem kRO_solve_d70 : decode prog_12_method_6_code 70 = .ok (.iload 9, 2) := by decide +kernel
theorem kRO_solve_d72 : decode prog_12_method_6_code 72 = .ok (.aload_n 0, 1) := by decide +kernel
theorem kRO_solve_d73 : decode prog_12_method_6_code 73 = .ok (.getfield 18, 3) := by decide +kernel
theorem kRO_solve_d76 : decode prog_12_method_6_code 76 = .ok (.iload 7, 2) := by decide +kernel
theorem kRO_solve_d78 : decode prog_12_method_6_code 78 = .ok (.invokevirtual 93, 3) := by decide +kernel
theorem kRO_solve_d81 : decode prog_12_method_6_code 81 = .ok (.if_icmp .ge 62, 3) := by decide +kernel
theorem kRO_solve_d84 : decode prog_12_method_6_code 84 = .ok (.iload 5, 2) := by decide +kernel
theorem kRO_solve_d86 : decode prog_12_method_6_code 86 = .ok (.istore 10, 2) := by decide +kernel
theorem kRO_solve_d88 : decode prog_12_method_6_code 88 = .ok (.iload 10, 2) := by decide +kernel
theorem kRO_solve_d90 : decode prog_12_method_6_code 90 = .ok (.iload 5, 2) := by decide +kernel
theorem kRO_solve_d92 : decode prog_12_method_6_code 92 = .ok (.iload 6, 2) := by decide +kernel
theorem kRO_solve_d94 : decode prog_12_method_6_code 94 = .ok (.iadd, 1) := by decide +kernel
theorem kRO_solve_d95 : decode prog_12_method_6_code 95 = .ok (.if_icmp .ge 42, 3) := by decide +kernel
theorem kRO_solve_d98 : decode prog_12_method_6_code 98 = .ok (.iload 8, 2) := by decide +kernel
theorem kRO_solve_d100 : decode prog_12_method_6_code 100 = .ok (.aload_n 0, 1) := by decide +kernel
theorem kRO_solve_d101 : decode prog_12_method_6_code 101 = .ok (.getfield 18, 3) := by decide +kernel
theorem kRO_solve_d104 : decode prog_12_method_6_code 104 = .ok (.iload 7, 2) := by decide +kernel
theorem kRO_solve_d106 : decode prog_12_method_6_code 106 = .ok (.iload 9, 2) := by decide +kernel
theorem kRO_solve_d108 : decode prog_12_method_6_code 108 = .ok (.iload 5, 2) := by decide +kernel
theorem kRO_solve_d110 : decode prog_12_method_6_code 110 = .ok (.iload 6, 2) := by decide +kernel
theorem kRO_solve_d112 : decode prog_12_method_6_code 112 = .ok (.iadd, 1) := by decide +kernel
theorem kRO_solve_d113 : decode prog_12_method_6_code 113 = .ok (.imul, 1) := by decide +kernel
theorem kRO_solve_d114 : decode prog_12_method_6_code 114 = .ok (.iload 10, 2) := by decide +kernel
theorem kRO_solve_d116 : decode prog_12_method_6_code 116 = .ok (.iadd, 1) := by decide +kernel
theorem kRO_solve_d117 : decode prog_12_method_6_code 117 = .ok (.invokevirtual 59, 3) := by decide +kernel
theorem kRO_solve_d120 : decode prog_12_method_6_code 120 = .ok (.ifCond .ne 7, 3) := by decide +kernel
theorem kRO_solve_d123 : decode prog_12_method_6_code 123 = .ok (.iconst 1, 1) := by decide +kernel
theorem kRO_solve_d124 : decode prog_12_method_6_code 124 = .ok (.goto 4, 3) := by decide +kernel
theorem kRO_solve_d127 : decode prog_12_method_6_code 127 = .ok (.iconst 0, 1) := by decide +kernel
theorem kRO_solve_d128 : decode prog_12_method_6_code 128 = .ok (.iand, 1) := by decide +kernel
theorem kRO_solve_d129 : decode prog_12_method_6_code 129 = .ok (.istore 8, 2) := by decide +kernel
theorem kRO_solve_d131 : decode prog_12_method_6_code 131 = .ok (.iinc 10 1, 3) := by decide +kernel
theorem kRO_solve_d134 : decode prog_12_method_6_code 134 = .ok (.goto (-46), 3) := by decide +kernel
theorem kRO_solve_d137 : decode prog_12_method_6_code 137 = .ok (.iinc 9 1, 3) := by decide +kernel
theorem kRO_solve_d140 : decode prog_12_method_6_code 140 = .ok (.goto (-70), 3) := by decide +kernel
theorem kRO_solve_d143 : decode prog_12_method_6_code 143 = .ok (.iload 8, 2) := by decide +kernel
theorem kRO_solve_d145 : decode prog_12_method_6_code 145 = .ok (.ifCond .ne 22, 3) := by decide +kernel
theorem kRO_solve_d148 : decode prog_12_method_6_code 148 = .ok (.aload_n 0, 1) := by decide +kernel
theorem kRO_solve_d149 : decode prog_12_method_6_code 149 = .ok (.getfield 28, 3) := by decide +kernel
theorem kRO_solve_d152 : decode prog_12_method_6_code 152 = .ok (.iload_n 3, 1) := by decide +kernel
theorem kRO_solve_d153 : decode prog_12_method_6_code 153 = .ok (.putfield 29, 3) := by decide +kernel
theorem kRO_solve_d156 : decode prog_12_method_6_code 156 = .ok (.aload_n 0, 1) := by decide +kernel
theorem kRO_solve_d157 : decode prog_12_method_6_code 157 = .ok (.getfield 18, 3) := by decide +kernel
theorem kRO_solve_d160 : decode prog_12_method_6_code 160 = .ok (.iload 4, 2) := by decide +kernel
theorem kRO_solve_d162 : decode prog_12_method_6_code 162 = .ok (.putfield 46, 3) := by decide +kernel
theorem kRO_solve_d165 : decode prog_12_method_6_code 165 = .ok (.iconst (-1), 1) := by decide +kernel
theorem kRO_solve_d166 : decode prog_12_method_6_code 166 = .ok (.ireturn, 1) := by decide +kernel
theorem kRO_solve_d167 : decode prog_12_method_6_code 167 = .ok (.aload_n 0, 1) := by decide +kernel
theorem kRO_solve_d168 : decode prog_12_method_6_code 168 = .ok (.getfield 28, 3) := by decide +kernel
theorem kRO_solve_d171 : decode prog_12_method_6_code 171 = .ok (.getfield 29, 3) := by decide +kernel
theorem kRO_solve_d174 : decode prog_12_method_6_code 174 = .ok (.istore 9, 2) := by decide +kernel
theorem kRO_solve_d176 : decode prog_12_method_6_code 176 = .ok (.aload_n 0, 1) := by decide +kernel
theorem kRO_solve_d177 : decode prog_12_method_6_code 177 = .ok (.getfield 18, 3) := by decide +kernel
theorem kRO_solve_d180 : decode prog_12_method_6_code 180 = .ok (.iload 5, 2) := by decide +kernel
theorem kRO_solve_d182 : decode prog_12_method_6_code 182 = .ok (.iload 6, 2) := by decide +kernel
theorem kRO_solve_d184 : decode prog_12_method_6_code 184 = .ok (.invokevirtual 52, 3) := by decide +kernel
theorem kRO_solve_d187 : decode prog_12_method_6_code 187 = .ok (.istore 10, 2) := by decide +kernel
theorem kRO_solve_d189 : decode prog_12_method_6_code 189 = .ok (.iconst 0, 1) := by decide +kernel
theorem kRO_solve_d190 : decode prog_12_method_6_code 190 = .ok (.istore 11, 2) := by decide +kernel
theorem kRO_solve_d192 : decode prog_12_method_6_code 192 = .ok (.iload 11, 2) := by decide +kernel
theorem kRO_solve_d194 : decode prog_12_method_6_code 194 = .ok (.iload 5, 2) := by decide +kernel
theorem kRO_solve_d196 : decode prog_12_method_6_code 196 = .ok (.iload 6, 2) := by decide +kernel
theorem kRO_solve_d198 : decode prog_12_method_6_code 198 = .ok (.imul, 1) := by decide +kernel
theorem kRO_solve_d199 : decode prog_12_method_6_code 199 = .ok (.if_icmp .ge 77, 3) := by decide +kernel
theorem kRO_solve_d202 : decode prog_12_method_6_code 202 = .ok (.aload_n 0, 1) := by decide +kernel
theorem kRO_solve_d203 : decode prog_12_method_6_code 203 = .ok (.iload 11, 2) := by decide +kernel
theorem kRO_solve_d205 : decode prog_12_method_6_code 205 = .ok (.iload 6, 2) := by decide +kernel
theorem kRO_solve_d207 : decode prog_12_method_6_code 207 = .ok (.idiv, 1) := by decide +kernel
theorem kRO_solve_d208 : decode prog_12_method_6_code 208 = .ok (.invokevirtual 56, 3) := by decide +kernel
theorem kRO_solve_d211 : decode prog_12_method_6_code 211 = .ok (.istore 12, 2) := by decide +kernel
theorem kRO_solve_d213 : decode prog_12_method_6_code 213 = .ok (.iload 12, 2) := by decide +kernel
theorem kRO_solve_d215 : decode prog_12_method_6_code 215 = .ok (.ifCond .lt 36, 3) := by decide +kernel
theorem kRO_solve_d218 : decode prog_12_method_6_code 218 = .ok (.aload_n 0, 1) := by decide +kernel
theorem kRO_solve_d219 : decode prog_12_method_6_code 219 = .ok (.getfield 18, 3) := by decide +kernel
theorem kRO_solve_d222 : decode prog_12_method_6_code 222 = .ok (.iload 10, 2) := by decide +kernel
theorem kRO_solve_d224 : decode prog_12_method_6_code 224 = .ok (.iload 11, 2) := by decide +kernel
theorem kRO_solve_d226 : decode prog_12_method_6_code 226 = .ok (.iload 7, 2) := by decide +kernel
theorem kRO_solve_d228 : decode prog_12_method_6_code 228 = .ok (.iload 12, 2) := by decide +kernel
theorem kRO_solve_d230 : decode prog_12_method_6_code 230 = .ok (.iload 5, 2) := by decide +kernel
theorem kRO_solve_d232 : decode prog_12_method_6_code 232 = .ok (.iload 6, 2) := by decide +kernel
theorem kRO_solve_d234 : decode prog_12_method_6_code 234 = .ok (.iadd, 1) := by decide +kernel
theorem kRO_solve_d235 : decode prog_12_method_6_code 235 = .ok (.imul, 1) := by decide +kernel
theorem kRO_solve_d236 : decode prog_12_method_6_code 236 = .ok (.iload 5, 2) := by decide +kernel
theorem kRO_solve_d238 : decode prog_12_method_6_code 238 = .ok (.iadd, 1) := by decide +kernel
theorem kRO_solve_d239 : decode prog_12_method_6_code 239 = .ok (.iload 11, 2) := by decide +kernel
theorem kRO_solve_d241 : decode prog_12_method_6_code 241 = .ok (.iload 6, 2) := by decide +kernel
theorem kRO_solve_d243 : decode prog_12_method_6_code 243 = .ok (.irem, 1) := by decide +kernel
theorem kRO_solve_d244 : decode prog_12_method_6_code 244 = .ok (.iadd, 1) := by decide +kernel
theorem kRO_solve_d245 : decode prog_12_method_6_code 245 = .ok (.invokevirtual 96, 3) := by decide +kernel
theorem kRO_solve_d248 : decode prog_12_method_6_code 248 = .ok (.goto 22, 3) := by decide +kernel
theorem kRO_solve_d251 : decode prog_12_method_6_code 251 = .ok (.aload_n 0, 1) := by decide +kernel
theorem kRO_solve_d252 : decode prog_12_method_6_code 252 = .ok (.getfield 18, 3) := by decide +kernel
theorem kRO_solve_d255 : decode prog_12_method_6_code 255 = .ok (.lconst 0, 1) := by decide +kernel
theorem kRO_solve_d256 : decode prog_12_method_6_code 256 = .ok (.invokevirtual 75, 3) := by decide +kernel
theorem kRO_solve_d259 : decode prog_12_method_6_code 259 = .ok (.aload_n 0, 1) := by decide +kernel
theorem kRO_solve_d260 : decode prog_12_method_6_code 260 = .ok (.getfield 18, 3) := by decide +kernel
theorem kRO_solve_d263 : decode prog_12_method_6_code 263 = .ok (.iload 10, 2) := by decide +kernel
theorem kRO_solve_d265 : decode prog_12_method_6_code 265 = .ok (.iload 11, 2) := by decide +kernel
theorem kRO_solve_d267 : decode prog_12_method_6_code 267 = .ok (.invokevirtual 79, 3) := by decide +kernel
theorem kRO_solve_d270 : decode prog_12_method_6_code 270 = .ok (.iinc 11 1, 3) := by decide +kernel
theorem kRO_solve_d273 : decode prog_12_method_6_code 273 = .ok (.goto (-81), 3) := by decide +kernel
theorem kRO_solve_d276 : decode prog_12_method_6_code 276 = .ok (.aload_n 0, 1) := by decide +kernel
theorem kRO_solve_d277 : decode prog_12_method_6_code 277 = .ok (.getfield 18, 3) := by decide +kernel
theorem kRO_solve_d280 : decode prog_12_method_6_code 280 = .ok (.iload_n 3, 1) := by decide +kernel
theorem kRO_solve_d281 : decode prog_12_method_6_code 281 = .ok (.iload 4, 2) := by decide +kernel
theorem kRO_solve_d283 : decode prog_12_method_6_code 283 = .ok (.iload 9, 2) := by decide +kernel
theorem kRO_solve_d285 : decode prog_12_method_6_code 285 = .ok (.iload 10, 2) := by decide +kernel
theorem kRO_solve_d287 : decode prog_12_method_6_code 287 = .ok (.invokevirtual 83, 3) := by decide +kernel
theorem kRO_solve_d290 : decode prog_12_method_6_code 290 = .ok (.ireturn, 1) := by decide +kernel
theorem kRO_inverse_d0 : decode prog_12_method_7_code 0 = .ok (.aload_n 0, 1) := by decide +kernel
theorem kRO_inverse_d1 : decode prog_12_method_7_code 1 = .ok (.getfield 28, 3) := by decide +kernel
theorem kRO_inverse_d4 : decode prog_12_method_7_code 4 = .ok (.getfield 29, 3) := by decide +kernel
theorem kRO_inverse_d7 : decode prog_12_method_7_code 7 = .ok (.istore_n 2, 1) := by decide +kernel
theorem kRO_inverse_d8 : decode prog_12_method_7_code 8 = .ok (.aload_n 0, 1) := by decide +kernel
theorem kRO_inverse_d9 : decode prog_12_method_7_code 9 = .ok (.getfield 18, 3) := by decide +kernel
theorem kRO_inverse_d12 : decode prog_12_method_7_code 12 = .ok (.getfield 46, 3) := by decide +kernel
theorem kRO_inverse_d15 : decode prog_12_method_7_code 15 = .ok (.istore_n 3, 1) := by decide +kernel
theorem kRO_inverse_d16 : decode prog_12_method_7_code 16 = .ok (.aload_n 0, 1) := by decide +kernel
theorem kRO_inverse_d17 : decode prog_12_method_7_code 17 = .ok (.getfield 18, 3) := by decide +kernel
theorem kRO_inverse_d20 : decode prog_12_method_7_code 20 = .ok (.iload_n 1, 1) := by decide +kernel
theorem kRO_inverse_d21 : decode prog_12_method_7_code 21 = .ok (.invokevirtual 93, 3) := by decide +kernel
theorem kRO_inverse_d24 : decode prog_12_method_7_code 24 = .ok (.istore 4, 2) := by decide +kernel
theorem kRO_inverse_d26 : decode prog_12_method_7_code 26 = .ok (.aload_n 0, 1) := by decide +kernel
theorem kRO_inverse_d27 : decode prog_12_method_7_code 27 = .ok (.getfield 18, 3) := by decide +kernel
theorem kRO_inverse_d30 : decode prog_12_method_7_code 30 = .ok (.iload 4, 2) := by decide +kernel
theorem kRO_inverse_d32 : decode prog_12_method_7_code 32 = .ok (.invokevirtual 100, 3) := by decide +kernel
theorem kRO_inverse_d35 : decode prog_12_method_7_code 35 = .ok (.istore 5, 2) := by decide +kernel
theorem kRO_inverse_d37 : decode prog_12_method_7_code 37 = .ok (.aload_n 0, 1) := by decide +kernel
theorem kRO_inverse_d38 : decode prog_12_method_7_code 38 = .ok (.getfield 28, 3) := by decide +kernel
theorem kRO_inverse_d41 : decode prog_12_method_7_code 41 = .ok (.getfield 29, 3) := by decide +kernel
theorem kRO_inverse_d44 : decode prog_12_method_7_code 44 = .ok (.istore 6, 2) := by decide +kernel
theorem kRO_inverse_d46 : decode prog_12_method_7_code 46 = .ok (.aload_n 0, 1) := by decide +kernel
theorem kRO_inverse_d47 : decode prog_12_method_7_code 47 = .ok (.iload_n 1, 1) := by decide +kernel
theorem kRO_inverse_d48 : decode prog_12_method_7_code 48 = .ok (.iload 5, 2) := by decide +kernel
theorem kRO_inverse_d50 : decode prog_12_method_7_code 50 = .ok (.invokevirtual 103, 3) := by decide +kernel
theorem kRO_inverse_d53 : decode prog_12_method_7_code 53 = .ok (.istore 7, 2) := by decide +kernel
theorem kRO_inverse_d55 : decode prog_12_method_7_code 55 = .ok (.iload 7, 2) := by decide +kernel
theorem kRO_inverse_d57 : decode prog_12_method_7_code 57 = .ok (.iconst (-1), 1) := by decide +kernel
theorem kRO_inverse_d58 : decode prog_12_method_7_code 58 = .ok (.if_icmp .eq 15, 3) := by decide +kernel
theorem kRO_inverse_d61 : decode prog_12_method_7_code 61 = .ok (.aload_n 0, 1) := by decide +kernel
theorem kRO_inverse_d62 : decode prog_12_method_7_code 62 = .ok (.getfield 18, 3) := by decide +kernel
theorem kRO_inverse_d65 : decode prog_12_method_7_code 65 = .ok (.getfield 47, 3) := by decide +kernel
theorem kRO_inverse_d68 : decode prog_12_method_7_code 68 = .ok (.iload 4, 2) := by decide +kernel
theorem kRO_inverse_d70 : decode prog_12_method_7_code 70 = .ok (.if_icmp .ge 21, 3) := by decide +kernel
theorem kRO_inverse_d73 : decode prog_12_method_7_code 73 = .ok (.aload_n 0, 1) := by decide +kernel
theorem kRO_inverse_d74 : decode prog_12_method_7_code 74 = .ok (.getfield 28, 3) := by decide +kernel
theorem kRO_inverse_d77 : decode prog_12_method_7_code 77 = .ok (.iload_n 2, 1) := by decide +kernel
theorem kRO_inverse_d78 : decode prog_12_method_7_code 78 = .ok (.putfield 29, 3) := by decide +kernel
theorem kRO_inverse_d81 : decode prog_12_method_7_code 81 = .ok (.aload_n 0, 1) := by decide +kernel
theorem kRO_inverse_d82 : decode prog_12_method_7_code 82 = .ok (.getfield 18, 3) := by decide +kernel
theorem kRO_inverse_d85 : decode prog_12_method_7_code 85 = .ok (.iload_n 3, 1) := by decide +kernel
theorem kRO_inverse_d86 : decode prog_12_method_7_code 86 = .ok (.putfield 46, 3) := by decide +kernel
theorem kRO_inverse_d89 : decode prog_12_method_7_code 89 = .ok (.iconst (-1), 1) := by decide +kernel
theorem kRO_inverse_d90 : decode prog_12_method_7_code 90 = .ok (.ireturn, 1) := by decide +kernel
theorem kRO_inverse_d91 : decode prog_12_method_7_code 91 = .ok (.aload_n 0, 1) := by decide +kernel
theorem kRO_inverse_d92 : decode prog_12_method_7_code 92 = .ok (.getfield 18, 3) := by decide +kernel
theorem kRO_inverse_d95 : decode prog_12_method_7_code 95 = .ok (.iload_n 2, 1) := by decide +kernel
theorem kRO_inverse_d96 : decode prog_12_method_7_code 96 = .ok (.iload_n 3, 1) := by decide +kernel
theorem kRO_inverse_d97 : decode prog_12_method_7_code 97 = .ok (.iload 6, 2) := by decide +kernel
theorem kRO_inverse_d99 : decode prog_12_method_7_code 99 = .ok (.iload 7, 2) := by decide +kernel
theorem kRO_inverse_d101 : decode prog_12_method_7_code 101 = .ok (.invokevirtual 83, 3) := by decide +kernel
theorem kRO_inverse_d104 : decode prog_12_method_7_code 104 = .ok (.ireturn, 1) := by decide +kernel
theorem kRO_rankOf_d0 : decode prog_12_method_3_code 0 = .ok (.aload_n 0, 1) := by decide +kernel
theorem kRO_rankOf_d1 : decode prog_12_method_3_code 1 = .ok (.getfield 28, 3) := by decide +kernel
theorem kRO_rankOf_d4 : decode prog_12_method_3_code 4 = .ok (.getfield 29, 3) := by decide +kernel
theorem kRO_rankOf_d7 : decode prog_12_method_3_code 7 = .ok (.istore_n 2, 1) := by decide +kernel
theorem kRO_rankOf_d8 : decode prog_12_method_3_code 8 = .ok (.aload_n 0, 1) := by decide +kernel
theorem kRO_rankOf_d9 : decode prog_12_method_3_code 9 = .ok (.getfield 18, 3) := by decide +kernel
theorem kRO_rankOf_d12 : decode prog_12_method_3_code 12 = .ok (.getfield 46, 3) := by decide +kernel
theorem kRO_rankOf_d15 : decode prog_12_method_3_code 15 = .ok (.istore_n 3, 1) := by decide +kernel
theorem kRO_rankOf_d16 : decode prog_12_method_3_code 16 = .ok (.aload_n 0, 1) := by decide +kernel
theorem kRO_rankOf_d17 : decode prog_12_method_3_code 17 = .ok (.getfield 18, 3) := by decide +kernel
theorem kRO_rankOf_d20 : decode prog_12_method_3_code 20 = .ok (.aload_n 0, 1) := by decide +kernel
theorem kRO_rankOf_d21 : decode prog_12_method_3_code 21 = .ok (.getfield 18, 3) := by decide +kernel
theorem kRO_rankOf_d24 : decode prog_12_method_3_code 24 = .ok (.iload_n 1, 1) := by decide +kernel
theorem kRO_rankOf_d25 : decode prog_12_method_3_code 25 = .ok (.invokevirtual 35, 3) := by decide +kernel
theorem kRO_rankOf_d28 : decode prog_12_method_3_code 28 = .ok (.iload_n 2, 1) := by decide +kernel
theorem kRO_rankOf_d29 : decode prog_12_method_3_code 29 = .ok (.aload_n 0, 1) := by decide +kernel
theorem kRO_rankOf_d30 : decode prog_12_method_3_code 30 = .ok (.getfield 18, 3) := by decide +kernel
theorem kRO_rankOf_d33 : decode prog_12_method_3_code 33 = .ok (.iload_n 1, 1) := by decide +kernel
theorem kRO_rankOf_d34 : decode prog_12_method_3_code 34 = .ok (.invokevirtual 39, 3) := by decide +kernel
theorem kRO_rankOf_d37 : decode prog_12_method_3_code 37 = .ok (.invokevirtual 42, 3) := by decide +kernel
theorem kRO_rankOf_d40 : decode prog_12_method_3_code 40 = .ok (.pop, 1) := by decide +kernel
theorem kRO_rankOf_d41 : decode prog_12_method_3_code 41 = .ok (.aload_n 0, 1) := by decide +kernel
theorem kRO_rankOf_d42 : decode prog_12_method_3_code 42 = .ok (.getfield 28, 3) := by decide +kernel
theorem kRO_rankOf_d45 : decode prog_12_method_3_code 45 = .ok (.iload_n 2, 1) := by decide +kernel
theorem kRO_rankOf_d46 : decode prog_12_method_3_code 46 = .ok (.putfield 29, 3) := by decide +kernel
theorem kRO_rankOf_d49 : decode prog_12_method_3_code 49 = .ok (.aload_n 0, 1) := by decide +kernel
theorem kRO_rankOf_d50 : decode prog_12_method_3_code 50 = .ok (.getfield 18, 3) := by decide +kernel
theorem kRO_rankOf_d53 : decode prog_12_method_3_code 53 = .ok (.iload_n 3, 1) := by decide +kernel
theorem kRO_rankOf_d54 : decode prog_12_method_3_code 54 = .ok (.putfield 46, 3) := by decide +kernel
theorem kRO_rankOf_d57 : decode prog_12_method_3_code 57 = .ok (.aload_n 0, 1) := by decide +kernel
theorem kRO_rankOf_d58 : decode prog_12_method_3_code 58 = .ok (.getfield 18, 3) := by decide +kernel
theorem kRO_rankOf_d61 : decode prog_12_method_3_code 61 = .ok (.getfield 47, 3) := by decide +kernel
theorem kRO_rankOf_d64 : decode prog_12_method_3_code 64 = .ok (.ireturn, 1) := by decide +kernel
theorem kRO_smith_d0 : decode prog_12_method_14_code 0 = .ok (.aload_n 0, 1) := by decide +kernel
theorem kRO_smith_d1 : decode prog_12_method_14_code 1 = .ok (.getfield 28, 3) := by decide +kernel
theorem kRO_smith_d4 : decode prog_12_method_14_code 4 = .ok (.getfield 29, 3) := by decide +kernel
theorem kRO_smith_d7 : decode prog_12_method_14_code 7 = .ok (.istore_n 2, 1) := by decide +kernel
theorem kRO_smith_d8 : decode prog_12_method_14_code 8 = .ok (.aload_n 0, 1) := by decide +kernel
theorem kRO_smith_d9 : decode prog_12_method_14_code 9 = .ok (.getfield 18, 3) := by decide +kernel
theorem kRO_smith_d12 : decode prog_12_method_14_code 12 = .ok (.getfield 46, 3) := by decide +kernel
theorem kRO_smith_d15 : decode prog_12_method_14_code 15 = .ok (.istore_n 3, 1) := by decide +kernel
theorem kRO_smith_d16 : decode prog_12_method_14_code 16 = .ok (.aload_n 0, 1) := by decide +kernel
theorem kRO_smith_d17 : decode prog_12_method_14_code 17 = .ok (.getfield 18, 3) := by decide +kernel
theorem kRO_smith_d20 : decode prog_12_method_14_code 20 = .ok (.iload_n 1, 1) := by decide +kernel
theorem kRO_smith_d21 : decode prog_12_method_14_code 21 = .ok (.invokevirtual 35, 3) := by decide +kernel
theorem kRO_smith_d24 : decode prog_12_method_14_code 24 = .ok (.istore 4, 2) := by decide +kernel
theorem kRO_smith_d26 : decode prog_12_method_14_code 26 = .ok (.iconst 0, 1) := by decide +kernel
theorem kRO_smith_d27 : decode prog_12_method_14_code 27 = .ok (.istore 5, 2) := by decide +kernel
theorem kRO_smith_d29 : decode prog_12_method_14_code 29 = .ok (.aload_n 0, 1) := by decide +kernel
theorem kRO_smith_d30 : decode prog_12_method_14_code 30 = .ok (.iload 4, 2) := by decide +kernel
theorem kRO_smith_d32 : decode prog_12_method_14_code 32 = .ok (.invokevirtual 166, 3) := by decide +kernel
theorem kRO_smith_d35 : decode prog_12_method_14_code 35 = .ok (.istore 6, 2) := by decide +kernel
theorem kRO_smith_d37 : decode prog_12_method_14_code 37 = .ok (.aload_n 0, 1) := by decide +kernel
theorem kRO_smith_d38 : decode prog_12_method_14_code 38 = .ok (.getfield 28, 3) := by decide +kernel
theorem kRO_smith_d41 : decode prog_12_method_14_code 41 = .ok (.getfield 29, 3) := by decide +kernel
theorem kRO_smith_d44 : decode prog_12_method_14_code 44 = .ok (.istore 7, 2) := by decide +kernel
theorem kRO_smith_d46 : decode prog_12_method_14_code 46 = .ok (.aload_n 0, 1) := by decide +kernel
theorem kRO_smith_d47 : decode prog_12_method_14_code 47 = .ok (.getfield 18, 3) := by decide +kernel
theorem kRO_smith_d50 : decode prog_12_method_14_code 50 = .ok (.iload_n 2, 1) := by decide +kernel
theorem kRO_smith_d51 : decode prog_12_method_14_code 51 = .ok (.iload_n 3, 1) := by decide +kernel
theorem kRO_smith_d52 : decode prog_12_method_14_code 52 = .ok (.iload 7, 2) := by decide +kernel
theorem kRO_smith_d54 : decode prog_12_method_14_code 54 = .ok (.aload_n 0, 1) := by decide +kernel
theorem kRO_smith_d55 : decode prog_12_method_14_code 55 = .ok (.getfield 18, 3) := by decide +kernel
theorem kRO_smith_d58 : decode prog_12_method_14_code 58 = .ok (.iload 6, 2) := by decide +kernel
theorem kRO_smith_d60 : decode prog_12_method_14_code 60 = .ok (.invokevirtual 146, 3) := by decide +kernel
theorem kRO_smith_d63 : decode prog_12_method_14_code 63 = .ok (.invokevirtual 83, 3) := by decide +kernel
theorem kRO_smith_d66 : decode prog_12_method_14_code 66 = .ok (.istore 4, 2) := by decide +kernel
theorem kRO_smith_d68 : decode prog_12_method_14_code 68 = .ok (.iload 5, 2) := by decide +kernel
theorem kRO_smith_d70 : decode prog_12_method_14_code 70 = .ok (.ifCond .ne 7, 3) := by decide +kernel
theorem kRO_smith_d73 : decode prog_12_method_14_code 73 = .ok (.iconst 1, 1) := by decide +kernel
theorem kRO_smith_d74 : decode prog_12_method_14_code 74 = .ok (.goto 4, 3) := by decide +kernel
theorem kRO_smith_d77 : decode prog_12_method_14_code 77 = .ok (.iconst 0, 1) := by decide +kernel
theorem kRO_smith_d78 : decode prog_12_method_14_code 78 = .ok (.istore 5, 2) := by decide +kernel
theorem kRO_smith_d80 : decode prog_12_method_14_code 80 = .ok (.aload_n 0, 1) := by decide +kernel
theorem kRO_smith_d81 : decode prog_12_method_14_code 81 = .ok (.iload 4, 2) := by decide +kernel
theorem kRO_smith_d83 : decode prog_12_method_14_code 83 = .ok (.invokevirtual 169, 3) := by decide +kernel
theorem kRO_smith_d86 : decode prog_12_method_14_code 86 = .ok (.ifCond .eq (-57), 3) := by decide +kernel
theorem kRO_smith_d89 : decode prog_12_method_14_code 89 = .ok (.iload 5, 2) := by decide +kernel
theorem kRO_smith_d91 : decode prog_12_method_14_code 91 = .ok (.ifCond .ne (-62), 3) := by decide +kernel
theorem kRO_smith_d94 : decode prog_12_method_14_code 94 = .ok (.aload_n 0, 1) := by decide +kernel
theorem kRO_smith_d95 : decode prog_12_method_14_code 95 = .ok (.getfield 18, 3) := by decide +kernel
theorem kRO_smith_d98 : decode prog_12_method_14_code 98 = .ok (.iload 4, 2) := by decide +kernel
theorem kRO_smith_d100 : decode prog_12_method_14_code 100 = .ok (.invokevirtual 39, 3) := by decide +kernel
theorem kRO_smith_d103 : decode prog_12_method_14_code 103 = .ok (.istore 6, 2) := by decide +kernel
theorem kRO_smith_d105 : decode prog_12_method_14_code 105 = .ok (.aload_n 0, 1) := by decide +kernel
theorem kRO_smith_d106 : decode prog_12_method_14_code 106 = .ok (.getfield 18, 3) := by decide +kernel
theorem kRO_smith_d109 : decode prog_12_method_14_code 109 = .ok (.iload 4, 2) := by decide +kernel
theorem kRO_smith_d111 : decode prog_12_method_14_code 111 = .ok (.invokevirtual 93, 3) := by decide +kernel
theorem kRO_smith_d114 : decode prog_12_method_14_code 114 = .ok (.iload 6, 2) := by decide +kernel
theorem kRO_smith_d116 : decode prog_12_method_14_code 116 = .ok (.invokestatic 173, 3) := by decide +kernel
theorem kRO_smith_d119 : decode prog_12_method_14_code 119 = .ok (.istore 7, 2) := by decide +kernel
theorem kRO_smith_d121 : decode prog_12_method_14_code 121 = .ok (.iconst 0, 1) := by decide +kernel
theorem kRO_smith_d122 : decode prog_12_method_14_code 122 = .ok (.istore 8, 2) := by decide +kernel
theorem kRO_smith_d124 : decode prog_12_method_14_code 124 = .ok (.iload 8, 2) := by decide +kernel
theorem kRO_smith_d126 : decode prog_12_method_14_code 126 = .ok (.iload 7, 2) := by decide +kernel
theorem kRO_smith_d128 : decode prog_12_method_14_code 128 = .ok (.if_icmp .ge 316, 3) := by decide +kernel
theorem kRO_smith_d131 : decode prog_12_method_14_code 131 = .ok (.iload 8, 2) := by decide +kernel
theorem kRO_smith_d133 : decode prog_12_method_14_code 133 = .ok (.iconst 1, 1) := by decide +kernel
theorem kRO_smith_d134 : decode prog_12_method_14_code 134 = .ok (.iadd, 1) := by decide +kernel
theorem kRO_smith_d135 : decode prog_12_method_14_code 135 = .ok (.istore 9, 2) := by decide +kernel
theorem kRO_smith_d137 : decode prog_12_method_14_code 137 = .ok (.iload 9, 2) := by decide +kernel
theorem kRO_smith_d139 : decode prog_12_method_14_code 139 = .ok (.iload 7, 2) := by decide +kernel
theorem kRO_smith_d141 : decode prog_12_method_14_code 141 = .ok (.if_icmp .ge 297, 3) := by decide +kernel
theorem kRO_smith_d144 : decode prog_12_method_14_code 144 = .ok (.aload_n 0, 1) := by decide +kernel
theorem kRO_smith_d145 : decode prog_12_method_14_code 145 = .ok (.getfield 18, 3) := by decide +kernel
theorem kRO_smith_d148 : decode prog_12_method_14_code 148 = .ok (.iload 4, 2) := by decide +kernel
theorem kRO_smith_d150 : decode prog_12_method_14_code 150 = .ok (.iload 8, 2) := by decide +kernel
theorem kRO_smith_d152 : decode prog_12_method_14_code 152 = .ok (.iload 6, 2) := by decide +kernel
theorem kRO_smith_d154 : decode prog_12_method_14_code 154 = .ok (.imul, 1) := by decide +kernel
theorem kRO_smith_d155 : decode prog_12_method_14_code 155 = .ok (.iload 8, 2) := by decide +kernel
theorem kRO_smith_d157 : decode prog_12_method_14_code 157 = .ok (.iadd, 1) := by decide +kernel
theorem kRO_smith_d158 : decode prog_12_method_14_code 158 = .ok (.invokevirtual 59, 3) := by decide +kernel
theorem kRO_smith_d161 : decode prog_12_method_14_code 161 = .ok (.istore 10, 2) := by decide +kernel
theorem kRO_smith_d163 : decode prog_12_method_14_code 163 = .ok (.aload_n 0, 1) := by decide +kernel
theorem kRO_smith_d164 : decode prog_12_method_14_code 164 = .ok (.getfield 18, 3) := by decide +kernel
theorem kRO_smith_d167 : decode prog_12_method_14_code 167 = .ok (.iload 4, 2) := by decide +kernel
theorem kRO_smith_d169 : decode prog_12_method_14_code 169 = .ok (.iload 9, 2) := by decide +kernel
theorem kRO_smith_d171 : decode prog_12_method_14_code 171 = .ok (.iload 6, 2) := by decide +kernel
theorem kRO_smith_d173 : decode prog_12_method_14_code 173 = .ok (.imul, 1) := by decide +kernel
theorem kRO_smith_d174 : decode prog_12_method_14_code 174 = .ok (.iload 9, 2) := by decide +kernel
theorem kRO_smith_d176 : decode prog_12_method_14_code 176 = .ok (.iadd, 1) := by decide +kernel
theorem kRO_smith_d177 : decode prog_12_method_14_code 177 = .ok (.invokevirtual 59, 3) := by decide +kernel
theorem kRO_smith_d180 : decode prog_12_method_14_code 180 = .ok (.istore 11, 2) := by decide +kernel
theorem kRO_smith_d182 : decode prog_12_method_14_code 182 = .ok (.aload_n 0, 1) := by decide +kernel
theorem kRO_smith_d183 : decode prog_12_method_14_code 183 = .ok (.getfield 28, 3) := by decide +kernel
theorem kRO_smith_d186 : decode prog_12_method_14_code 186 = .ok (.iload 10, 2) := by decide +kernel
theorem kRO_smith_d188 : decode prog_12_method_14_code 188 = .ok (.iload 11, 2) := by decide +kernel
theorem kRO_smith_d190 : decode prog_12_method_14_code 190 = .ok (.invokevirtual 178, 3) := by decide +kernel
theorem kRO_smith_d193 : decode prog_12_method_14_code 193 = .ok (.istore 12, 2) := by decide +kernel
theorem kRO_smith_d195 : decode prog_12_method_14_code 195 = .ok (.iload 12, 2) := by decide +kernel
theorem kRO_smith_d197 : decode prog_12_method_14_code 197 = .ok (.ifCond .ne 7, 3) := by decide +kernel
theorem kRO_smith_d200 : decode prog_12_method_14_code 200 = .ok (.iconst 0, 1) := by decide +kernel
theorem kRO_smith_d201 : decode prog_12_method_14_code 201 = .ok (.goto 37, 3) := by decide +kernel
theorem kRO_smith_d204 : decode prog_12_method_14_code 204 = .ok (.aload_n 0, 1) := by decide +kernel
theorem kRO_smith_d205 : decode prog_12_method_14_code 205 = .ok (.getfield 28, 3) := by decide +kernel
theorem kRO_smith_d208 : decode prog_12_method_14_code 208 = .ok (.aload_n 0, 1) := by decide +kernel
theorem kRO_smith_d209 : decode prog_12_method_14_code 209 = .ok (.getfield 28, 3) := by decide +kernel
theorem kRO_smith_d212 : decode prog_12_method_14_code 212 = .ok (.aload_n 0, 1) := by decide +kernel
theorem kRO_smith_d213 : decode prog_12_method_14_code 213 = .ok (.getfield 28, 3) := by decide +kernel
theorem kRO_smith_d216 : decode prog_12_method_14_code 216 = .ok (.aload_n 0, 1) := by decide +kernel
theorem kRO_smith_d217 : decode prog_12_method_14_code 217 = .ok (.getfield 28, 3) := by decide +kernel
theorem kRO_smith_d220 : decode prog_12_method_14_code 220 = .ok (.iload 10, 2) := by decide +kernel
theorem kRO_smith_d222 : decode prog_12_method_14_code 222 = .ok (.invokevirtual 127, 3) := by decide +kernel
theorem kRO_smith_d225 : decode prog_12_method_14_code 225 = .ok (.iload 12, 2) := by decide +kernel
theorem kRO_smith_d227 : decode prog_12_method_14_code 227 = .ok (.invokevirtual 109, 3) := by decide +kernel
theorem kRO_smith_d230 : decode prog_12_method_14_code 230 = .ok (.iload 11, 2) := by decide +kernel
theorem kRO_smith_d232 : decode prog_12_method_14_code 232 = .ok (.invokevirtual 115, 3) := by decide +kernel
theorem kRO_smith_d235 : decode prog_12_method_14_code 235 = .ok (.invokevirtual 127, 3) := by decide +kernel
theorem kRO_smith_d238 : decode prog_12_method_14_code 238 = .ok (.istore 13, 2) := by decide +kernel
theorem kRO_smith_d240 : decode prog_12_method_14_code 240 = .ok (.aload_n 0, 1) := by decide +kernel
theorem kRO_smith_d241 : decode prog_12_method_14_code 241 = .ok (.getfield 28, 3) := by decide +kernel
theorem kRO_smith_d244 : decode prog_12_method_14_code 244 = .ok (.getfield 29, 3) := by decide +kernel
theorem kRO_smith_d247 : decode prog_12_method_14_code 247 = .ok (.istore 14, 2) := by decide +kernel
theorem kRO_smith_d249 : decode prog_12_method_14_code 249 = .ok (.aload_n 0, 1) := by decide +kernel
theorem kRO_smith_d250 : decode prog_12_method_14_code 250 = .ok (.getfield 18, 3) := by decide +kernel
theorem kRO_smith_d253 : decode prog_12_method_14_code 253 = .ok (.aload_n 0, 1) := by decide +kernel
theorem kRO_smith_d254 : decode prog_12_method_14_code 254 = .ok (.getfield 18, 3) := by decide +kernel
theorem kRO_smith_d257 : decode prog_12_method_14_code 257 = .ok (.iload 4, 2) := by decide +kernel
theorem kRO_smith_d259 : decode prog_12_method_14_code 259 = .ok (.invokevirtual 93, 3) := by decide +kernel
theorem kRO_smith_d262 : decode prog_12_method_14_code 262 = .ok (.iload 6, 2) := by decide +kernel
theorem kRO_smith_d264 : decode prog_12_method_14_code 264 = .ok (.invokevirtual 52, 3) := by decide +kernel
theorem kRO_smith_d267 : decode prog_12_method_14_code 267 = .ok (.istore 15, 2) := by decide +kernel
theorem kRO_smith_d269 : decode prog_12_method_14_code 269 = .ok (.iconst 0, 1) := by decide +kernel
theorem kRO_smith_d270 : decode prog_12_method_14_code 270 = .ok (.istore 16, 2) := by decide +kernel
theorem kRO_smith_d272 : decode prog_12_method_14_code 272 = .ok (.iload 16, 2) := by decide +kernel
theorem kRO_smith_d274 : decode prog_12_method_14_code 274 = .ok (.aload_n 0, 1) := by decide +kernel
theorem kRO_smith_d275 : decode prog_12_method_14_code 275 = .ok (.getfield 18, 3) := by decide +kernel
theorem kRO_smith_d278 : decode prog_12_method_14_code 278 = .ok (.iload 4, 2) := by decide +kernel
theorem kRO_smith_d280 : decode prog_12_method_14_code 280 = .ok (.invokevirtual 153, 3) := by decide +kernel
theorem kRO_smith_d283 : decode prog_12_method_14_code 283 = .ok (.if_icmp .ge 134, 3) := by decide +kernel
theorem kRO_smith_d286 : decode prog_12_method_14_code 286 = .ok (.aload_n 0, 1) := by decide +kernel
theorem kRO_smith_d287 : decode prog_12_method_14_code 287 = .ok (.getfield 18, 3) := by decide +kernel
theorem kRO_smith_d290 : decode prog_12_method_14_code 290 = .ok (.iload 15, 2) := by decide +kernel
theorem kRO_smith_d292 : decode prog_12_method_14_code 292 = .ok (.iload 16, 2) := by decide +kernel
theorem kRO_smith_d294 : decode prog_12_method_14_code 294 = .ok (.iload 4, 2) := by decide +kernel
theorem kRO_smith_d296 : decode prog_12_method_14_code 296 = .ok (.iload 16, 2) := by decide +kernel
theorem kRO_smith_d298 : decode prog_12_method_14_code 298 = .ok (.invokevirtual 96, 3) := by decide +kernel
theorem kRO_smith_d301 : decode prog_12_method_14_code 301 = .ok (.iload 16, 2) := by decide +kernel
theorem kRO_smith_d303 : decode prog_12_method_14_code 303 = .ok (.iload 8, 2) := by decide +kernel
theorem kRO_smith_d305 : decode prog_12_method_14_code 305 = .ok (.iload 6, 2) := by decide +kernel
theorem kRO_smith_d307 : decode prog_12_method_14_code 307 = .ok (.imul, 1) := by decide +kernel
theorem kRO_smith_d308 : decode prog_12_method_14_code 308 = .ok (.iload 8, 2) := by decide +kernel
theorem kRO_smith_d310 : decode prog_12_method_14_code 310 = .ok (.iadd, 1) := by decide +kernel
theorem kRO_smith_d311 : decode prog_12_method_14_code 311 = .ok (.if_icmp .ne 7, 3) := by decide +kernel
theorem kRO_smith_d314 : decode prog_12_method_14_code 314 = .ok (.iconst 1, 1) := by decide +kernel
theorem kRO_smith_d315 : decode prog_12_method_14_code 315 = .ok (.goto 4, 3) := by decide +kernel
theorem kRO_smith_d318 : decode prog_12_method_14_code 318 = .ok (.iconst 0, 1) := by decide +kernel
theorem kRO_smith_d319 : decode prog_12_method_14_code 319 = .ok (.istore 17, 2) := by decide +kernel
theorem kRO_smith_d321 : decode prog_12_method_14_code 321 = .ok (.iload 17, 2) := by decide +kernel
theorem kRO_smith_d323 : decode prog_12_method_14_code 323 = .ok (.ifCond .ne 19, 3) := by decide +kernel
theorem kRO_smith_d326 : decode prog_12_method_14_code 326 = .ok (.iload 16, 2) := by decide +kernel
theorem kRO_smith_d328 : decode prog_12_method_14_code 328 = .ok (.iload 9, 2) := by decide +kernel
theorem kRO_smith_d330 : decode prog_12_method_14_code 330 = .ok (.iload 6, 2) := by decide +kernel
theorem kRO_smith_d332 : decode prog_12_method_14_code 332 = .ok (.imul, 1) := by decide +kernel
theorem kRO_smith_d333 : decode prog_12_method_14_code 333 = .ok (.iload 9, 2) := by decide +kernel
theorem kRO_smith_d335 : decode prog_12_method_14_code 335 = .ok (.iadd, 1) := by decide +kernel
theorem kRO_smith_d336 : decode prog_12_method_14_code 336 = .ok (.if_icmp .eq 6, 3) := by decide +kernel
theorem kRO_smith_d339 : decode prog_12_method_14_code 339 = .ok (.goto 72, 3) := by decide +kernel
theorem kRO_smith_d342 : decode prog_12_method_14_code 342 = .ok (.aload_n 0, 1) := by decide +kernel
theorem kRO_smith_d343 : decode prog_12_method_14_code 343 = .ok (.getfield 18, 3) := by decide +kernel
theorem kRO_smith_d346 : decode prog_12_method_14_code 346 = .ok (.getfield 65, 3) := by decide +kernel
theorem kRO_smith_d349 : decode prog_12_method_14_code 349 = .ok (.ifCond .le 17, 3) := by decide +kernel
theorem kRO_smith_d352 : decode prog_12_method_14_code 352 = .ok (.aload_n 0, 1) := by decide +kernel
theorem kRO_smith_d353 : decode prog_12_method_14_code 353 = .ok (.getfield 28, 3) := by decide +kernel
theorem kRO_smith_d356 : decode prog_12_method_14_code 356 = .ok (.aload_n 0, 1) := by decide +kernel
theorem kRO_smith_d357 : decode prog_12_method_14_code 357 = .ok (.getfield 18, 3) := by decide +kernel
theorem kRO_smith_d360 : decode prog_12_method_14_code 360 = .ok (.getfield 65, 3) := by decide +kernel
theorem kRO_smith_d363 : decode prog_12_method_14_code 363 = .ok (.putfield 29, 3) := by decide +kernel
theorem kRO_smith_d366 : decode prog_12_method_14_code 366 = .ok (.aload_n 0, 1) := by decide +kernel
theorem kRO_smith_d367 : decode prog_12_method_14_code 367 = .ok (.getfield 18, 3) := by decide +kernel
theorem kRO_smith_d370 : decode prog_12_method_14_code 370 = .ok (.aload_n 0, 1) := by decide +kernel
theorem kRO_smith_d371 : decode prog_12_method_14_code 371 = .ok (.getfield 28, 3) := by decide +kernel
theorem kRO_smith_d374 : decode prog_12_method_14_code 374 = .ok (.iload 17, 2) := by decide +kernel
theorem kRO_smith_d376 : decode prog_12_method_14_code 376 = .ok (.ifCond .eq 8, 3) := by decide +kernel
theorem kRO_smith_d379 : decode prog_12_method_14_code 379 = .ok (.iload 12, 2) := by decide +kernel
theorem kRO_smith_d381 : decode prog_12_method_14_code 381 = .ok (.goto 5, 3) := by decide +kernel
theorem kRO_smith_d384 : decode prog_12_method_14_code 384 = .ok (.iload 13, 2) := by decide +kernel
theorem kRO_smith_d386 : decode prog_12_method_14_code 386 = .ok (.invokevirtual 71, 3) := by decide +kernel
theorem kRO_smith_d389 : decode prog_12_method_14_code 389 = .ok (.putfield 65, 3) := by decide +kernel
theorem kRO_smith_d392 : decode prog_12_method_14_code 392 = .ok (.aload_n 0, 1) := by decide +kernel
theorem kRO_smith_d393 : decode prog_12_method_14_code 393 = .ok (.getfield 18, 3) := by decide +kernel
theorem kRO_smith_d396 : decode prog_12_method_14_code 396 = .ok (.iconst 1, 1) := by decide +kernel
theorem kRO_smith_d397 : decode prog_12_method_14_code 397 = .ok (.putfield 72, 3) := by decide +kernel
theorem kRO_smith_d400 : decode prog_12_method_14_code 400 = .ok (.aload_n 0, 1) := by decide +kernel
theorem kRO_smith_d401 : decode prog_12_method_14_code 401 = .ok (.getfield 18, 3) := by decide +kernel
theorem kRO_smith_d404 : decode prog_12_method_14_code 404 = .ok (.iload 15, 2) := by decide +kernel
theorem kRO_smith_d406 : decode prog_12_method_14_code 406 = .ok (.iload 16, 2) := by decide +kernel
theorem kRO_smith_d408 : decode prog_12_method_14_code 408 = .ok (.invokevirtual 79, 3) := by decide +kernel
theorem kRO_smith_d411 : decode prog_12_method_14_code 411 = .ok (.iinc 16 1, 3) := by decide +kernel
theorem kRO_smith_d414 : decode prog_12_method_14_code 414 = .ok (.goto (-142), 3) := by decide +kernel
theorem kRO_smith_d417 : decode prog_12_method_14_code 417 = .ok (.aload_n 0, 1) := by decide +kernel
theorem kRO_smith_d418 : decode prog_12_method_14_code 418 = .ok (.getfield 18, 3) := by decide +kernel
theorem kRO_smith_d421 : decode prog_12_method_14_code 421 = .ok (.iload_n 2, 1) := by decide +kernel
theorem kRO_smith_d422 : decode prog_12_method_14_code 422 = .ok (.iload_n 3, 1) := by decide +kernel
theorem kRO_smith_d423 : decode prog_12_method_14_code 423 = .ok (.iload 14, 2) := by decide +kernel
theorem kRO_smith_d425 : decode prog_12_method_14_code 425 = .ok (.iload 15, 2) := by decide +kernel
theorem kRO_smith_d427 : decode prog_12_method_14_code 427 = .ok (.invokevirtual 83, 3) := by decide +kernel
theorem kRO_smith_d430 : decode prog_12_method_14_code 430 = .ok (.istore 4, 2) := by decide +kernel
theorem kRO_smith_d432 : decode prog_12_method_14_code 432 = .ok (.iinc 9 1, 3) := by decide +kernel
theorem kRO_smith_d435 : decode prog_12_method_14_code 435 = .ok (.goto (-298), 3) := by decide +kernel
theorem kRO_smith_d438 : decode prog_12_method_14_code 438 = .ok (.iinc 8 1, 3) := by decide +kernel
theorem kRO_smith_d441 : decode prog_12_method_14_code 441 = .ok (.goto (-317), 3) := by decide +kernel
theorem kRO_smith_d444 : decode prog_12_method_14_code 444 = .ok (.iload 4, 2) := by decide +kernel
theorem kRO_smith_d446 : decode prog_12_method_14_code 446 = .ok (.ireturn, 1) := by decide +kernel
theorem kRO_hermite_d0 : decode prog_12_method_12_code 0 = .ok (.aload_n 0, 1) := by decide +kernel
theorem kRO_hermite_d1 : decode prog_12_method_12_code 1 = .ok (.getfield 28, 3) := by decide +kernel
theorem kRO_hermite_d4 : decode prog_12_method_12_code 4 = .ok (.getfield 29, 3) := by decide +kernel
theorem kRO_hermite_d7 : decode prog_12_method_12_code 7 = .ok (.istore_n 2, 1) := by decide +kernel
theorem kRO_hermite_d8 : decode prog_12_method_12_code 8 = .ok (.aload_n 0, 1) := by decide +kernel
theorem kRO_hermite_d9 : decode prog_12_method_12_code 9 = .ok (.getfield 18, 3) := by decide +kernel
theorem kRO_hermite_d12 : decode prog_12_method_12_code 12 = .ok (.getfield 46, 3) := by decide +kernel
theorem kRO_hermite_d15 : decode prog_12_method_12_code 15 = .ok (.istore_n 3, 1) := by decide +kernel
theorem kRO_hermite_d16 : decode prog_12_method_12_code 16 = .ok (.aload_n 0, 1) := by decide +kernel
theorem kRO_hermite_d17 : decode prog_12_method_12_code 17 = .ok (.aload_n 0, 1) := by decide +kernel
theorem kRO_hermite_d18 : decode prog_12_method_12_code 18 = .ok (.getfield 18, 3) := by decide +kernel
theorem kRO_hermite_d21 : decode prog_12_method_12_code 21 = .ok (.iload_n 1, 1) := by decide +kernel
theorem kRO_hermite_d22 : decode prog_12_method_12_code 22 = .ok (.invokevirtual 146, 3) := by decide +kernel
theorem kRO_hermite_d25 : decode prog_12_method_12_code 25 = .ok (.invokevirtual 50, 3) := by decide +kernel
theorem kRO_hermite_d28 : decode prog_12_method_12_code 28 = .ok (.pop, 1) := by decide +kernel
theorem kRO_hermite_d29 : decode prog_12_method_12_code 29 = .ok (.aload_n 0, 1) := by decide +kernel
theorem kRO_hermite_d30 : decode prog_12_method_12_code 30 = .ok (.getfield 18, 3) := by decide +kernel
theorem kRO_hermite_d33 : decode prog_12_method_12_code 33 = .ok (.getfield 47, 3) := by decide +kernel
theorem kRO_hermite_d36 : decode prog_12_method_12_code 36 = .ok (.istore 4, 2) := by decide +kernel
theorem kRO_hermite_d38 : decode prog_12_method_12_code 38 = .ok (.iconst 0, 1) := by decide +kernel
theorem kRO_hermite_d39 : decode prog_12_method_12_code 39 = .ok (.istore 5, 2) := by decide +kernel
theorem kRO_hermite_d41 : decode prog_12_method_12_code 41 = .ok (.iload 5, 2) := by decide +kernel
theorem kRO_hermite_d43 : decode prog_12_method_12_code 43 = .ok (.iload 4, 2) := by decide +kernel
theorem kRO_hermite_d45 : decode prog_12_method_12_code 45 = .ok (.if_icmp .ge 26, 3) := by decide +kernel
theorem kRO_hermite_d48 : decode prog_12_method_12_code 48 = .ok (.aload_n 0, 1) := by decide +kernel
theorem kRO_hermite_d49 : decode prog_12_method_12_code 49 = .ok (.getfield 15, 3) := by decide +kernel
theorem kRO_hermite_d52 : decode prog_12_method_12_code 52 = .ok (.iload 5, 2) := by decide +kernel
theorem kRO_hermite_d54 : decode prog_12_method_12_code 54 = .ok (.aload_n 0, 1) := by decide +kernel
theorem kRO_hermite_d55 : decode prog_12_method_12_code 55 = .ok (.getfield 18, 3) := by decide +kernel
theorem kRO_hermite_d58 : decode prog_12_method_12_code 58 = .ok (.getfield 87, 3) := by decide +kernel
theorem kRO_hermite_d61 : decode prog_12_method_12_code 61 = .ok (.iload 5, 2) := by decide +kernel
theorem kRO_hermite_d63 : decode prog_12_method_12_code 63 = .ok (.iaload, 1) := by decide +kernel
theorem kRO_hermite_d64 : decode prog_12_method_12_code 64 = .ok (.iastore, 1) := by decide +kernel
theorem kRO_hermite_d65 : decode prog_12_method_12_code 65 = .ok (.iinc 5 1, 3) := by decide +kernel
theorem kRO_hermite_d68 : decode prog_12_method_12_code 68 = .ok (.goto (-27), 3) := by decide +kernel
theorem kRO_hermite_d71 : decode prog_12_method_12_code 71 = .ok (.aload_n 0, 1) := by decide +kernel
theorem kRO_hermite_d72 : decode prog_12_method_12_code 72 = .ok (.getfield 18, 3) := by decide +kernel
theorem kRO_hermite_d75 : decode prog_12_method_12_code 75 = .ok (.iload_n 3, 1) := by decide +kernel
theorem kRO_hermite_d76 : decode prog_12_method_12_code 76 = .ok (.putfield 46, 3) := by decide +kernel
theorem kRO_hermite_d79 : decode prog_12_method_12_code 79 = .ok (.aload_n 0, 1) := by decide +kernel
theorem kRO_hermite_d80 : decode prog_12_method_12_code 80 = .ok (.getfield 28, 3) := by decide +kernel
theorem kRO_hermite_d83 : decode prog_12_method_12_code 83 = .ok (.iload_n 2, 1) := by decide +kernel
theorem kRO_hermite_d84 : decode prog_12_method_12_code 84 = .ok (.putfield 29, 3) := by decide +kernel
theorem kRO_hermite_d87 : decode prog_12_method_12_code 87 = .ok (.iload 4, 2) := by decide +kernel
theorem kRO_hermite_d89 : decode prog_12_method_12_code 89 = .ok (.ifCond .ne 12, 3) := by decide +kernel
theorem kRO_hermite_d92 : decode prog_12_method_12_code 92 = .ok (.aload_n 0, 1) := by decide +kernel
theorem kRO_hermite_d93 : decode prog_12_method_12_code 93 = .ok (.getfield 18, 3) := by decide +kernel
theorem kRO_hermite_d96 : decode prog_12_method_12_code 96 = .ok (.iload_n 1, 1) := by decide +kernel
theorem kRO_hermite_d97 : decode prog_12_method_12_code 97 = .ok (.invokevirtual 35, 3) := by decide +kernel
theorem kRO_hermite_d100 : decode prog_12_method_12_code 100 = .ok (.ireturn, 1) := by decide +kernel
theorem kRO_hermite_d101 : decode prog_12_method_12_code 101 = .ok (.aload_n 0, 1) := by decide +kernel
theorem kRO_hermite_d102 : decode prog_12_method_12_code 102 = .ok (.iload_n 1, 1) := by decide +kernel
theorem kRO_hermite_d103 : decode prog_12_method_12_code 103 = .ok (.invokevirtual 50, 3) := by decide +kernel
theorem kRO_hermite_d106 : decode prog_12_method_12_code 106 = .ok (.istore 5, 2) := by decide +kernel
theorem kRO_hermite_d108 : decode prog_12_method_12_code 108 = .ok (.iconst 0, 1) := by decide +kernel
theorem kRO_hermite_d109 : decode prog_12_method_12_code 109 = .ok (.istore 6, 2) := by decide +kernel
theorem kRO_hermite_d111 : decode prog_12_method_12_code 111 = .ok (.iload 6, 2) := by decide +kernel
theorem kRO_hermite_d113 : decode prog_12_method_12_code 113 = .ok (.iload 4, 2) := by decide +kernel
theorem kRO_hermite_d115 : decode prog_12_method_12_code 115 = .ok (.if_icmp .ge 26, 3) := by decide +kernel
theorem kRO_hermite_d118 : decode prog_12_method_12_code 118 = .ok (.aload_n 0, 1) := by decide +kernel
theorem kRO_hermite_d119 : decode prog_12_method_12_code 119 = .ok (.getfield 9, 3) := by decide +kernel
theorem kRO_hermite_d122 : decode prog_12_method_12_code 122 = .ok (.iload 6, 2) := by decide +kernel
theorem kRO_hermite_d124 : decode prog_12_method_12_code 124 = .ok (.aload_n 0, 1) := by decide +kernel
theorem kRO_hermite_d125 : decode prog_12_method_12_code 125 = .ok (.getfield 18, 3) := by decide +kernel
theorem kRO_hermite_d128 : decode prog_12_method_12_code 128 = .ok (.getfield 87, 3) := by decide +kernel
theorem kRO_hermite_d131 : decode prog_12_method_12_code 131 = .ok (.iload 6, 2) := by decide +kernel
theorem kRO_hermite_d133 : decode prog_12_method_12_code 133 = .ok (.iaload, 1) := by decide +kernel
theorem kRO_hermite_d134 : decode prog_12_method_12_code 134 = .ok (.iastore, 1) := by decide +kernel
theorem kRO_hermite_d135 : decode prog_12_method_12_code 135 = .ok (.iinc 6 1, 3) := by decide +kernel
theorem kRO_hermite_d138 : decode prog_12_method_12_code 138 = .ok (.goto (-27), 3) := by decide +kernel
theorem kRO_hermite_d141 : decode prog_12_method_12_code 141 = .ok (.aload_n 0, 1) := by decide +kernel
theorem kRO_hermite_d142 : decode prog_12_method_12_code 142 = .ok (.getfield 18, 3) := by decide +kernel
theorem kRO_hermite_d145 : decode prog_12_method_12_code 145 = .ok (.iload_n 1, 1) := by decide +kernel
theorem kRO_hermite_d146 : decode prog_12_method_12_code 146 = .ok (.invokevirtual 39, 3) := by decide +kernel
theorem kRO_hermite_d149 : decode prog_12_method_12_code 149 = .ok (.istore 6, 2) := by decide +kernel
theorem kRO_hermite_d151 : decode prog_12_method_12_code 151 = .ok (.aload_n 0, 1) := by decide +kernel
theorem kRO_hermite_d152 : decode prog_12_method_12_code 152 = .ok (.getfield 18, 3) := by decide +kernel
theorem kRO_hermite_d155 : decode prog_12_method_12_code 155 = .ok (.iload_n 1, 1) := by decide +kernel
theorem kRO_hermite_d156 : decode prog_12_method_12_code 156 = .ok (.invokevirtual 93, 3) := by decide +kernel
theorem kRO_hermite_d159 : decode prog_12_method_12_code 159 = .ok (.istore 7, 2) := by decide +kernel
theorem kRO_hermite_d161 : decode prog_12_method_12_code 161 = .ok (.aload_n 0, 1) := by decide +kernel
theorem kRO_hermite_d162 : decode prog_12_method_12_code 162 = .ok (.getfield 18, 3) := by decide +kernel
theorem kRO_hermite_d165 : decode prog_12_method_12_code 165 = .ok (.iload 4, 2) := by decide +kernel
theorem kRO_hermite_d167 : decode prog_12_method_12_code 167 = .ok (.iload 4, 2) := by decide +kernel
theorem kRO_hermite_d169 : decode prog_12_method_12_code 169 = .ok (.invokevirtual 52, 3) := by decide +kernel
theorem kRO_hermite_d172 : decode prog_12_method_12_code 172 = .ok (.istore 8, 2) := by decide +kernel
theorem kRO_hermite_d174 : decode prog_12_method_12_code 174 = .ok (.iconst 0, 1) := by decide +kernel
theorem kRO_hermite_d175 : decode prog_12_method_12_code 175 = .ok (.istore 9, 2) := by decide +kernel
theorem kRO_hermite_d177 : decode prog_12_method_12_code 177 = .ok (.iload 9, 2) := by decide +kernel
theorem kRO_hermite_d179 : decode prog_12_method_12_code 179 = .ok (.iload 4, 2) := by decide +kernel
theorem kRO_hermite_d181 : decode prog_12_method_12_code 181 = .ok (.iload 4, 2) := by decide +kernel
theorem kRO_hermite_d183 : decode prog_12_method_12_code 183 = .ok (.imul, 1) := by decide +kernel
theorem kRO_hermite_d184 : decode prog_12_method_12_code 184 = .ok (.if_icmp .ge 45, 3) := by decide +kernel
theorem kRO_hermite_d187 : decode prog_12_method_12_code 187 = .ok (.aload_n 0, 1) := by decide +kernel
theorem kRO_hermite_d188 : decode prog_12_method_12_code 188 = .ok (.getfield 18, 3) := by decide +kernel
theorem kRO_hermite_d191 : decode prog_12_method_12_code 191 = .ok (.iload 8, 2) := by decide +kernel
theorem kRO_hermite_d193 : decode prog_12_method_12_code 193 = .ok (.iload 9, 2) := by decide +kernel
theorem kRO_hermite_d195 : decode prog_12_method_12_code 195 = .ok (.iload_n 1, 1) := by decide +kernel
theorem kRO_hermite_d196 : decode prog_12_method_12_code 196 = .ok (.aload_n 0, 1) := by decide +kernel
theorem kRO_hermite_d197 : decode prog_12_method_12_code 197 = .ok (.getfield 15, 3) := by decide +kernel
theorem kRO_hermite_d200 : decode prog_12_method_12_code 200 = .ok (.iload 9, 2) := by decide +kernel
theorem kRO_hermite_d202 : decode prog_12_method_12_code 202 = .ok (.iload 4, 2) := by decide +kernel
theorem kRO_hermite_d204 : decode prog_12_method_12_code 204 = .ok (.idiv, 1) := by decide +kernel
theorem kRO_hermite_d205 : decode prog_12_method_12_code 205 = .ok (.iaload, 1) := by decide +kernel
theorem kRO_hermite_d206 : decode prog_12_method_12_code 206 = .ok (.iload 6, 2) := by decide +kernel
theorem kRO_hermite_d208 : decode prog_12_method_12_code 208 = .ok (.imul, 1) := by decide +kernel
theorem kRO_hermite_d209 : decode prog_12_method_12_code 209 = .ok (.aload_n 0, 1) := by decide +kernel
theorem kRO_hermite_d210 : decode prog_12_method_12_code 210 = .ok (.getfield 9, 3) := by decide +kernel
theorem kRO_hermite_d213 : decode prog_12_method_12_code 213 = .ok (.iload 9, 2) := by decide +kernel
theorem kRO_hermite_d215 : decode prog_12_method_12_code 215 = .ok (.iload 4, 2) := by decide +kernel
theorem kRO_hermite_d217 : decode prog_12_method_12_code 217 = .ok (.irem, 1) := by decide +kernel
theorem kRO_hermite_d218 : decode prog_12_method_12_code 218 = .ok (.iaload, 1) := by decide +kernel
theorem kRO_hermite_d219 : decode prog_12_method_12_code 219 = .ok (.iadd, 1) := by decide +kernel
theorem kRO_hermite_d220 : decode prog_12_method_12_code 220 = .ok (.invokevirtual 96, 3) := by decide +kernel
theorem kRO_hermite_d223 : decode prog_12_method_12_code 223 = .ok (.iinc 9 1, 3) := by decide +kernel
theorem kRO_hermite_d226 : decode prog_12_method_12_code 226 = .ok (.goto (-49), 3) := by decide +kernel
theorem kRO_hermite_d229 : decode prog_12_method_12_code 229 = .ok (.aload_n 0, 1) := by decide +kernel
theorem kRO_hermite_d230 : decode prog_12_method_12_code 230 = .ok (.getfield 18, 3) := by decide +kernel
theorem kRO_hermite_d233 : decode prog_12_method_12_code 233 = .ok (.iload 8, 2) := by decide +kernel
theorem kRO_hermite_d235 : decode prog_12_method_12_code 235 = .ok (.invokevirtual 149, 3) := by decide +kernel
theorem kRO_hermite_d238 : decode prog_12_method_12_code 238 = .ok (.aload_n 0, 1) := by decide +kernel
theorem kRO_hermite_d239 : decode prog_12_method_12_code 239 = .ok (.getfield 28, 3) := by decide +kernel
theorem kRO_hermite_d242 : decode prog_12_method_12_code 242 = .ok (.aload_n 0, 1) := by decide +kernel
theorem kRO_hermite_d243 : decode prog_12_method_12_code 243 = .ok (.getfield 28, 3) := by decide +kernel
theorem kRO_hermite_d246 : decode prog_12_method_12_code 246 = .ok (.aload_n 0, 1) := by decide +kernel
theorem kRO_hermite_d247 : decode prog_12_method_12_code 247 = .ok (.getfield 18, 3) := by decide +kernel
theorem kRO_hermite_d250 : decode prog_12_method_12_code 250 = .ok (.getfield 65, 3) := by decide +kernel
theorem kRO_hermite_d253 : decode prog_12_method_12_code 253 = .ok (.invokevirtual 71, 3) := by decide +kernel
theorem kRO_hermite_d256 : decode prog_12_method_12_code 256 = .ok (.invokevirtual 127, 3) := by decide +kernel
theorem kRO_hermite_d259 : decode prog_12_method_12_code 259 = .ok (.istore 9, 2) := by decide +kernel
theorem kRO_hermite_d261 : decode prog_12_method_12_code 261 = .ok (.aload_n 0, 1) := by decide +kernel
theorem kRO_hermite_d262 : decode prog_12_method_12_code 262 = .ok (.getfield 28, 3) := by decide +kernel
theorem kRO_hermite_d265 : decode prog_12_method_12_code 265 = .ok (.getfield 29, 3) := by decide +kernel
theorem kRO_hermite_d268 : decode prog_12_method_12_code 268 = .ok (.istore 10, 2) := by decide +kernel
theorem kRO_hermite_d270 : decode prog_12_method_12_code 270 = .ok (.aload_n 0, 1) := by decide +kernel
theorem kRO_hermite_d271 : decode prog_12_method_12_code 271 = .ok (.getfield 18, 3) := by decide +kernel
theorem kRO_hermite_d274 : decode prog_12_method_12_code 274 = .ok (.iload 7, 2) := by decide +kernel
theorem kRO_hermite_d276 : decode prog_12_method_12_code 276 = .ok (.iload 4, 2) := by decide +kernel
theorem kRO_hermite_d278 : decode prog_12_method_12_code 278 = .ok (.iadd, 1) := by decide +kernel
theorem kRO_hermite_d279 : decode prog_12_method_12_code 279 = .ok (.iload 4, 2) := by decide +kernel
theorem kRO_hermite_d281 : decode prog_12_method_12_code 281 = .ok (.invokevirtual 52, 3) := by decide +kernel
theorem kRO_hermite_d284 : decode prog_12_method_12_code 284 = .ok (.istore 11, 2) := by decide +kernel
theorem kRO_hermite_d286 : decode prog_12_method_12_code 286 = .ok (.iconst 0, 1) := by decide +kernel
theorem kRO_hermite_d287 : decode prog_12_method_12_code 287 = .ok (.istore 12, 2) := by decide +kernel
theorem kRO_hermite_d289 : decode prog_12_method_12_code 289 = .ok (.iload 12, 2) := by decide +kernel
theorem kRO_hermite_d291 : decode prog_12_method_12_code 291 = .ok (.aload_n 0, 1) := by decide +kernel
theorem kRO_hermite_d292 : decode prog_12_method_12_code 292 = .ok (.getfield 18, 3) := by decide +kernel
theorem kRO_hermite_d295 : decode prog_12_method_12_code 295 = .ok (.iload 11, 2) := by decide +kernel
theorem kRO_hermite_d297 : decode prog_12_method_12_code 297 = .ok (.invokevirtual 153, 3) := by decide +kernel
theorem kRO_hermite_d300 : decode prog_12_method_12_code 300 = .ok (.if_icmp .ge 89, 3) := by decide +kernel
theorem kRO_hermite_d303 : decode prog_12_method_12_code 303 = .ok (.iload 12, 2) := by decide +kernel
theorem kRO_hermite_d305 : decode prog_12_method_12_code 305 = .ok (.iload 4, 2) := by decide +kernel
theorem kRO_hermite_d307 : decode prog_12_method_12_code 307 = .ok (.idiv, 1) := by decide +kernel
theorem kRO_hermite_d308 : decode prog_12_method_12_code 308 = .ok (.istore 13, 2) := by decide +kernel
theorem kRO_hermite_d310 : decode prog_12_method_12_code 310 = .ok (.iload 12, 2) := by decide +kernel
theorem kRO_hermite_d312 : decode prog_12_method_12_code 312 = .ok (.iload 4, 2) := by decide +kernel
theorem kRO_hermite_d314 : decode prog_12_method_12_code 314 = .ok (.irem, 1) := by decide +kernel
theorem kRO_hermite_d315 : decode prog_12_method_12_code 315 = .ok (.istore 14, 2) := by decide +kernel
theorem kRO_hermite_d317 : decode prog_12_method_12_code 317 = .ok (.iload 13, 2) := by decide +kernel
theorem kRO_hermite_d319 : decode prog_12_method_12_code 319 = .ok (.iload 7, 2) := by decide +kernel
theorem kRO_hermite_d321 : decode prog_12_method_12_code 321 = .ok (.if_icmp .ge 31, 3) := by decide +kernel
theorem kRO_hermite_d324 : decode prog_12_method_12_code 324 = .ok (.aload_n 0, 1) := by decide +kernel
theorem kRO_hermite_d325 : decode prog_12_method_12_code 325 = .ok (.getfield 18, 3) := by decide +kernel
theorem kRO_hermite_d328 : decode prog_12_method_12_code 328 = .ok (.iload 11, 2) := by decide +kernel
theorem kRO_hermite_d330 : decode prog_12_method_12_code 330 = .ok (.iload 12, 2) := by decide +kernel
theorem kRO_hermite_d332 : decode prog_12_method_12_code 332 = .ok (.iload_n 1, 1) := by decide +kernel
theorem kRO_hermite_d333 : decode prog_12_method_12_code 333 = .ok (.iload 13, 2) := by decide +kernel
theorem kRO_hermite_d335 : decode prog_12_method_12_code 335 = .ok (.iload 6, 2) := by decide +kernel
theorem kRO_hermite_d337 : decode prog_12_method_12_code 337 = .ok (.imul, 1) := by decide +kernel
theorem kRO_hermite_d338 : decode prog_12_method_12_code 338 = .ok (.aload_n 0, 1) := by decide +kernel
theorem kRO_hermite_d339 : decode prog_12_method_12_code 339 = .ok (.getfield 9, 3) := by decide +kernel
theorem kRO_hermite_d342 : decode prog_12_method_12_code 342 = .ok (.iload 14, 2) := by decide +kernel
theorem kRO_hermite_d344 : decode prog_12_method_12_code 344 = .ok (.iaload, 1) := by decide +kernel
theorem kRO_hermite_d345 : decode prog_12_method_12_code 345 = .ok (.iadd, 1) := by decide +kernel
theorem kRO_hermite_d346 : decode prog_12_method_12_code 346 = .ok (.invokevirtual 96, 3) := by decide +kernel
theorem kRO_hermite_d349 : decode prog_12_method_12_code 349 = .ok (.goto 34, 3) := by decide +kernel
theorem kRO_hermite_d352 : decode prog_12_method_12_code 352 = .ok (.aload_n 0, 1) := by decide +kernel
theorem kRO_hermite_d353 : decode prog_12_method_12_code 353 = .ok (.iload 11, 2) := by decide +kernel
theorem kRO_hermite_d355 : decode prog_12_method_12_code 355 = .ok (.iload 12, 2) := by decide +kernel
theorem kRO_hermite_d357 : decode prog_12_method_12_code 357 = .ok (.iload 13, 2) := by decide +kernel
theorem kRO_hermite_d359 : decode prog_12_method_12_code 359 = .ok (.iload 7, 2) := by decide +kernel
theorem kRO_hermite_d361 : decode prog_12_method_12_code 361 = .ok (.isub, 1) := by decide +kernel
theorem kRO_hermite_d362 : decode prog_12_method_12_code 362 = .ok (.iload 14, 2) := by decide +kernel
theorem kRO_hermite_d364 : decode prog_12_method_12_code 364 = .ok (.if_icmp .ne 15, 3) := by decide +kernel
theorem kRO_hermite_d367 : decode prog_12_method_12_code 367 = .ok (.aload_n 0, 1) := by decide +kernel
theorem kRO_hermite_d368 : decode prog_12_method_12_code 368 = .ok (.getfield 28, 3) := by decide +kernel
theorem kRO_hermite_d371 : decode prog_12_method_12_code 371 = .ok (.iload 9, 2) := by decide +kernel
theorem kRO_hermite_d373 : decode prog_12_method_12_code 373 = .ok (.invokevirtual 71, 3) := by decide +kernel
theorem kRO_hermite_d376 : decode prog_12_method_12_code 376 = .ok (.goto 4, 3) := by decide +kernel
theorem kRO_hermite_d379 : decode prog_12_method_12_code 379 = .ok (.iconst 0, 1) := by decide +kernel
theorem kRO_hermite_d380 : decode prog_12_method_12_code 380 = .ok (.invokevirtual 142, 3) := by decide +kernel
theorem kRO_hermite_d383 : decode prog_12_method_12_code 383 = .ok (.iinc 12 1, 3) := by decide +kernel
theorem kRO_hermite_d386 : decode prog_12_method_12_code 386 = .ok (.goto (-97), 3) := by decide +kernel
theorem kRO_hermite_d389 : decode prog_12_method_12_code 389 = .ok (.aload_n 0, 1) := by decide +kernel
theorem kRO_hermite_d390 : decode prog_12_method_12_code 390 = .ok (.iload 11, 2) := by decide +kernel
theorem kRO_hermite_d392 : decode prog_12_method_12_code 392 = .ok (.iload 10, 2) := by decide +kernel
theorem kRO_hermite_d394 : decode prog_12_method_12_code 394 = .ok (.iload 9, 2) := by decide +kernel
theorem kRO_hermite_d396 : decode prog_12_method_12_code 396 = .ok (.invokevirtual 156, 3) := by decide +kernel
theorem kRO_hermite_d399 : decode prog_12_method_12_code 399 = .ok (.istore 11, 2) := by decide +kernel
theorem kRO_hermite_d401 : decode prog_12_method_12_code 401 = .ok (.aload_n 0, 1) := by decide +kernel
theorem kRO_hermite_d402 : decode prog_12_method_12_code 402 = .ok (.getfield 18, 3) := by decide +kernel
theorem kRO_hermite_d405 : decode prog_12_method_12_code 405 = .ok (.aload_n 0, 1) := by decide +kernel
theorem kRO_hermite_d406 : decode prog_12_method_12_code 406 = .ok (.getfield 18, 3) := by decide +kernel
theorem kRO_hermite_d409 : decode prog_12_method_12_code 409 = .ok (.iload 11, 2) := by decide +kernel
theorem kRO_hermite_d411 : decode prog_12_method_12_code 411 = .ok (.iconst 0, 1) := by decide +kernel
theorem kRO_hermite_d412 : decode prog_12_method_12_code 412 = .ok (.iconst 0, 1) := by decide +kernel
theorem kRO_hermite_d413 : decode prog_12_method_12_code 413 = .ok (.iload 4, 2) := by decide +kernel
theorem kRO_hermite_d415 : decode prog_12_method_12_code 415 = .ok (.iload 4, 2) := by decide +kernel
theorem kRO_hermite_d417 : decode prog_12_method_12_code 417 = .ok (.invokevirtual 159, 3) := by decide +kernel
theorem kRO_hermite_d420 : decode prog_12_method_12_code 420 = .ok (.aload_n 0, 1) := by decide +kernel
theorem kRO_hermite_d421 : decode prog_12_method_12_code 421 = .ok (.getfield 18, 3) := by decide +kernel
theorem kRO_hermite_d424 : decode prog_12_method_12_code 424 = .ok (.iload 5, 2) := by decide +kernel
theorem kRO_hermite_d426 : decode prog_12_method_12_code 426 = .ok (.iconst 0, 1) := by decide +kernel
theorem kRO_hermite_d427 : decode prog_12_method_12_code 427 = .ok (.iconst 0, 1) := by decide +kernel
theorem kRO_hermite_d428 : decode prog_12_method_12_code 428 = .ok (.iload 4, 2) := by decide +kernel
theorem kRO_hermite_d430 : decode prog_12_method_12_code 430 = .ok (.iload 6, 2) := by decide +kernel
theorem kRO_hermite_d432 : decode prog_12_method_12_code 432 = .ok (.invokevirtual 159, 3) := by decide +kernel
theorem kRO_hermite_d435 : decode prog_12_method_12_code 435 = .ok (.invokevirtual 163, 3) := by decide +kernel
theorem kRO_hermite_d438 : decode prog_12_method_12_code 438 = .ok (.istore 12, 2) := by decide +kernel
theorem kRO_hermite_d440 : decode prog_12_method_12_code 440 = .ok (.aload_n 0, 1) := by decide +kernel
theorem kRO_hermite_d441 : decode prog_12_method_12_code 441 = .ok (.getfield 28, 3) := by decide +kernel
theorem kRO_hermite_d444 : decode prog_12_method_12_code 444 = .ok (.getfield 29, 3) := by decide +kernel
theorem kRO_hermite_d447 : decode prog_12_method_12_code 447 = .ok (.istore 13, 2) := by decide +kernel
theorem kRO_hermite_d449 : decode prog_12_method_12_code 449 = .ok (.aload_n 0, 1) := by decide +kernel
theorem kRO_hermite_d450 : decode prog_12_method_12_code 450 = .ok (.getfield 18, 3) := by decide +kernel
theorem kRO_hermite_d453 : decode prog_12_method_12_code 453 = .ok (.iload 7, 2) := by decide +kernel
theorem kRO_hermite_d455 : decode prog_12_method_12_code 455 = .ok (.iload 6, 2) := by decide +kernel
theorem kRO_hermite_d457 : decode prog_12_method_12_code 457 = .ok (.invokevirtual 52, 3) := by decide +kernel
theorem kRO_hermite_d460 : decode prog_12_method_12_code 460 = .ok (.istore 14, 2) := by decide +kernel
theorem kRO_hermite_d462 : decode prog_12_method_12_code 462 = .ok (.iconst 0, 1) := by decide +kernel
theorem kRO_hermite_d463 : decode prog_12_method_12_code 463 = .ok (.istore 15, 2) := by decide +kernel
theorem kRO_hermite_d465 : decode prog_12_method_12_code 465 = .ok (.iload 15, 2) := by decide +kernel
theorem kRO_hermite_d467 : decode prog_12_method_12_code 467 = .ok (.iload 7, 2) := by decide +kernel
theorem kRO_hermite_d469 : decode prog_12_method_12_code 469 = .ok (.iload 6, 2) := by decide +kernel
theorem kRO_hermite_d471 : decode prog_12_method_12_code 471 = .ok (.imul, 1) := by decide +kernel
theorem kRO_hermite_d472 : decode prog_12_method_12_code 472 = .ok (.if_icmp .ge 46, 3) := by decide +kernel
theorem kRO_hermite_d475 : decode prog_12_method_12_code 475 = .ok (.iload 15, 2) := by decide +kernel
theorem kRO_hermite_d477 : decode prog_12_method_12_code 477 = .ok (.iload 4, 2) := by decide +kernel
theorem kRO_hermite_d479 : decode prog_12_method_12_code 479 = .ok (.iload 6, 2) := by decide +kernel
theorem kRO_hermite_d481 : decode prog_12_method_12_code 481 = .ok (.imul, 1) := by decide +kernel
theorem kRO_hermite_d482 : decode prog_12_method_12_code 482 = .ok (.if_icmp .ge 21, 3) := by decide +kernel
theorem kRO_hermite_d485 : decode prog_12_method_12_code 485 = .ok (.aload_n 0, 1) := by decide +kernel
theorem kRO_hermite_d486 : decode prog_12_method_12_code 486 = .ok (.getfield 18, 3) := by decide +kernel
theorem kRO_hermite_d489 : decode prog_12_method_12_code 489 = .ok (.iload 14, 2) := by decide +kernel
theorem kRO_hermite_d491 : decode prog_12_method_12_code 491 = .ok (.iload 15, 2) := by decide +kernel
theorem kRO_hermite_d493 : decode prog_12_method_12_code 493 = .ok (.iload 12, 2) := by decide +kernel
theorem kRO_hermite_d495 : decode prog_12_method_12_code 495 = .ok (.iload 15, 2) := by decide +kernel
theorem kRO_hermite_d497 : decode prog_12_method_12_code 497 = .ok (.invokevirtual 96, 3) := by decide +kernel
theorem kRO_hermite_d500 : decode prog_12_method_12_code 500 = .ok (.goto 12, 3) := by decide +kernel
theorem kRO_hermite_d503 : decode prog_12_method_12_code 503 = .ok (.aload_n 0, 1) := by decide +kernel
theorem kRO_hermite_d504 : decode prog_12_method_12_code 504 = .ok (.iload 14, 2) := by decide +kernel
theorem kRO_hermite_d506 : decode prog_12_method_12_code 506 = .ok (.iload 15, 2) := by decide +kernel
theorem kRO_hermite_d508 : decode prog_12_method_12_code 508 = .ok (.iconst 0, 1) := by decide +kernel
theorem kRO_hermite_d509 : decode prog_12_method_12_code 509 = .ok (.invokevirtual 142, 3) := by decide +kernel
theorem kRO_hermite_d512 : decode prog_12_method_12_code 512 = .ok (.iinc 15 1, 3) := by decide +kernel
theorem kRO_hermite_d515 : decode prog_12_method_12_code 515 = .ok (.goto (-50), 3) := by decide +kernel
theorem kRO_hermite_d518 : decode prog_12_method_12_code 518 = .ok (.aload_n 0, 1) := by decide +kernel
theorem kRO_hermite_d519 : decode prog_12_method_12_code 519 = .ok (.getfield 18, 3) := by decide +kernel
theorem kRO_hermite_d522 : decode prog_12_method_12_code 522 = .ok (.iload_n 2, 1) := by decide +kernel
theorem kRO_hermite_d523 : decode prog_12_method_12_code 523 = .ok (.iload_n 3, 1) := by decide +kernel
theorem kRO_hermite_d524 : decode prog_12_method_12_code 524 = .ok (.iload 13, 2) := by decide +kernel
theorem kRO_hermite_d526 : decode prog_12_method_12_code 526 = .ok (.iload 14, 2) := by decide +kernel
theorem kRO_hermite_d528 : decode prog_12_method_12_code 528 = .ok (.invokevirtual 83, 3) := by decide +kernel
theorem kRO_hermite_d531 : decode prog_12_method_12_code 531 = .ok (.ireturn, 1) := by decide +kernel
theorem kRO_whole_d0 : decode prog_12_method_9_code 0 = .ok (.aload_n 0, 1) := by decide +kernel
theorem kRO_whole_d1 : decode prog_12_method_9_code 1 = .ok (.getfield 18, 3) := by decide +kernel
theorem kRO_whole_d4 : decode prog_12_method_9_code 4 = .ok (.iload_n 3, 1) := by decide +kernel
theorem kRO_whole_d5 : decode prog_12_method_9_code 5 = .ok (.putfield 65, 3) := by decide +kernel
theorem kRO_whole_d8 : decode prog_12_method_9_code 8 = .ok (.aload_n 0, 1) := by decide +kernel
theorem kRO_whole_d9 : decode prog_12_method_9_code 9 = .ok (.getfield 18, 3) := by decide +kernel
theorem kRO_whole_d12 : decode prog_12_method_9_code 12 = .ok (.iconst 1, 1) := by decide +kernel
theorem kRO_whole_d13 : decode prog_12_method_9_code 13 = .ok (.putfield 72, 3) := by decide +kernel
theorem kRO_whole_d16 : decode prog_12_method_9_code 16 = .ok (.aload_n 0, 1) := by decide +kernel
theorem kRO_whole_d17 : decode prog_12_method_9_code 17 = .ok (.getfield 18, 3) := by decide +kernel
theorem kRO_whole_d20 : decode prog_12_method_9_code 20 = .ok (.iload_n 1, 1) := by decide +kernel
theorem kRO_whole_d21 : decode prog_12_method_9_code 21 = .ok (.iload_n 2, 1) := by decide +kernel
theorem kRO_whole_d22 : decode prog_12_method_9_code 22 = .ok (.invokevirtual 79, 3) := by decide +kernel
theorem kRO_whole_d25 : decode prog_12_method_9_code 25 = .ok (.return_, 1) := by decide +kernel
theorem kRO_triangle_d0 : decode prog_12_method_11_code 0 = .ok (.iload_n 1, 1) := by decide +kernel
theorem kRO_triangle_d1 : decode prog_12_method_11_code 1 = .ok (.istore 4, 2) := by decide +kernel
theorem kRO_triangle_d3 : decode prog_12_method_11_code 3 = .ok (.aload_n 0, 1) := by decide +kernel
theorem kRO_triangle_d4 : decode prog_12_method_11_code 4 = .ok (.getfield 18, 3) := by decide +kernel
theorem kRO_triangle_d7 : decode prog_12_method_11_code 7 = .ok (.iload 4, 2) := by decide +kernel
theorem kRO_triangle_d9 : decode prog_12_method_11_code 9 = .ok (.invokevirtual 39, 3) := by decide +kernel
theorem kRO_triangle_d12 : decode prog_12_method_11_code 12 = .ok (.istore 5, 2) := by decide +kernel
theorem kRO_triangle_d14 : decode prog_12_method_11_code 14 = .ok (.iconst 0, 1) := by decide +kernel
theorem kRO_triangle_d15 : decode prog_12_method_11_code 15 = .ok (.istore 6, 2) := by decide +kernel
theorem kRO_triangle_d17 : decode prog_12_method_11_code 17 = .ok (.iload 6, 2) := by decide +kernel
theorem kRO_triangle_d19 : decode prog_12_method_11_code 19 = .ok (.iload 5, 2) := by decide +kernel
theorem kRO_triangle_d21 : decode prog_12_method_11_code 21 = .ok (.if_icmp .ge 459, 3) := by decide +kernel
theorem kRO_triangle_d24 : decode prog_12_method_11_code 24 = .ok (.iload 6, 2) := by decide +kernel
theorem kRO_triangle_d26 : decode prog_12_method_11_code 26 = .ok (.iconst 1, 1) := by decide +kernel
theorem kRO_triangle_d27 : decode prog_12_method_11_code 27 = .ok (.iadd, 1) := by decide +kernel
theorem kRO_triangle_d28 : decode prog_12_method_11_code 28 = .ok (.istore 7, 2) := by decide +kernel
theorem kRO_triangle_d30 : decode prog_12_method_11_code 30 = .ok (.iload 7, 2) := by decide +kernel
theorem kRO_triangle_d32 : decode prog_12_method_11_code 32 = .ok (.aload_n 0, 1) := by decide +kernel
theorem kRO_triangle_d33 : decode prog_12_method_11_code 33 = .ok (.getfield 18, 3) := by decide +kernel
theorem kRO_triangle_d36 : decode prog_12_method_11_code 36 = .ok (.iload 4, 2) := by decide +kernel
theorem kRO_triangle_d38 : decode prog_12_method_11_code 38 = .ok (.invokevirtual 93, 3) := by decide +kernel
theorem kRO_triangle_d41 : decode prog_12_method_11_code 41 = .ok (.if_icmp .ge 433, 3) := by decide +kernel
theorem kRO_triangle_d44 : decode prog_12_method_11_code 44 = .ok (.aload_n 0, 1) := by decide +kernel
theorem kRO_triangle_d45 : decode prog_12_method_11_code 45 = .ok (.getfield 18, 3) := by decide +kernel
theorem kRO_triangle_d48 : decode prog_12_method_11_code 48 = .ok (.iload 4, 2) := by decide +kernel
theorem kRO_triangle_d50 : decode prog_12_method_11_code 50 = .ok (.iload 7, 2) := by decide +kernel
theorem kRO_triangle_d52 : decode prog_12_method_11_code 52 = .ok (.iload 5, 2) := by decide +kernel
theorem kRO_triangle_d54 : decode prog_12_method_11_code 54 = .ok (.imul, 1) := by decide +kernel
theorem kRO_triangle_d55 : decode prog_12_method_11_code 55 = .ok (.iload 6, 2) := by decide +kernel
theorem kRO_triangle_d57 : decode prog_12_method_11_code 57 = .ok (.iadd, 1) := by decide +kernel
theorem kRO_triangle_d58 : decode prog_12_method_11_code 58 = .ok (.invokevirtual 59, 3) := by decide +kernel
theorem kRO_triangle_d61 : decode prog_12_method_11_code 61 = .ok (.istore 8, 2) := by decide +kernel
theorem kRO_triangle_d63 : decode prog_12_method_11_code 63 = .ok (.aload_n 0, 1) := by decide +kernel
theorem kRO_triangle_d64 : decode prog_12_method_11_code 64 = .ok (.getfield 18, 3) := by decide +kernel
theorem kRO_triangle_d67 : decode prog_12_method_11_code 67 = .ok (.iload 4, 2) := by decide +kernel
theorem kRO_triangle_d69 : decode prog_12_method_11_code 69 = .ok (.iload 6, 2) := by decide +kernel
theorem kRO_triangle_d71 : decode prog_12_method_11_code 71 = .ok (.iload 5, 2) := by decide +kernel
theorem kRO_triangle_d73 : decode prog_12_method_11_code 73 = .ok (.imul, 1) := by decide +kernel
theorem kRO_triangle_d74 : decode prog_12_method_11_code 74 = .ok (.iload 6, 2) := by decide +kernel
theorem kRO_triangle_d76 : decode prog_12_method_11_code 76 = .ok (.iadd, 1) := by decide +kernel
theorem kRO_triangle_d77 : decode prog_12_method_11_code 77 = .ok (.invokevirtual 59, 3) := by decide +kernel
theorem kRO_triangle_d80 : decode prog_12_method_11_code 80 = .ok (.istore 9, 2) := by decide +kernel
theorem kRO_triangle_d82 : decode prog_12_method_11_code 82 = .ok (.iload 8, 2) := by decide +kernel
theorem kRO_triangle_d84 : decode prog_12_method_11_code 84 = .ok (.ifCond .ne 6, 3) := by decide +kernel
theorem kRO_triangle_d87 : decode prog_12_method_11_code 87 = .ok (.goto 381, 3) := by decide +kernel
theorem kRO_triangle_d90 : decode prog_12_method_11_code 90 = .ok (.iload 9, 2) := by decide +kernel
theorem kRO_triangle_d92 : decode prog_12_method_11_code 92 = .ok (.ifCond .ne 7, 3) := by decide +kernel
theorem kRO_triangle_d95 : decode prog_12_method_11_code 95 = .ok (.iconst 1, 1) := by decide +kernel
theorem kRO_triangle_d96 : decode prog_12_method_11_code 96 = .ok (.goto 4, 3) := by decide +kernel
theorem kRO_triangle_d99 : decode prog_12_method_11_code 99 = .ok (.iconst 0, 1) := by decide +kernel
theorem kRO_triangle_d100 : decode prog_12_method_11_code 100 = .ok (.istore 10, 2) := by decide +kernel
theorem kRO_triangle_d102 : decode prog_12_method_11_code 102 = .ok (.iload 10, 2) := by decide +kernel
theorem kRO_triangle_d104 : decode prog_12_method_11_code 104 = .ok (.ifCond .eq 8, 3) := by decide +kernel
theorem kRO_triangle_d107 : decode prog_12_method_11_code 107 = .ok (.iload 8, 2) := by decide +kernel
theorem kRO_triangle_d109 : decode prog_12_method_11_code 109 = .ok (.goto 18, 3) := by decide +kernel
theorem kRO_triangle_d112 : decode prog_12_method_11_code 112 = .ok (.aload_n 0, 1) := by decide +kernel
theorem kRO_triangle_d113 : decode prog_12_method_11_code 113 = .ok (.iload 9, 2) := by decide +kernel
theorem kRO_triangle_d115 : decode prog_12_method_11_code 115 = .ok (.aload_n 0, 1) := by decide +kernel
theorem kRO_triangle_d116 : decode prog_12_method_11_code 116 = .ok (.getfield 28, 3) := by decide +kernel
theorem kRO_triangle_d119 : decode prog_12_method_11_code 119 = .ok (.iload 8, 2) := by decide +kernel
theorem kRO_triangle_d121 : decode prog_12_method_11_code 121 = .ok (.invokevirtual 127, 3) := by decide +kernel
theorem kRO_triangle_d124 : decode prog_12_method_11_code 124 = .ok (.invokevirtual 130, 3) := by decide +kernel
theorem kRO_triangle_d127 : decode prog_12_method_11_code 127 = .ok (.istore 11, 2) := by decide +kernel
theorem kRO_triangle_d129 : decode prog_12_method_11_code 129 = .ok (.iload 10, 2) := by decide +kernel
theorem kRO_triangle_d131 : decode prog_12_method_11_code 131 = .ok (.ifCond .eq 7, 3) := by decide +kernel
theorem kRO_triangle_d134 : decode prog_12_method_11_code 134 = .ok (.iconst 0, 1) := by decide +kernel
theorem kRO_triangle_d135 : decode prog_12_method_11_code 135 = .ok (.goto 7, 3) := by decide +kernel
theorem kRO_triangle_d138 : decode prog_12_method_11_code 138 = .ok (.aload_n 0, 1) := by decide +kernel
theorem kRO_triangle_d139 : decode prog_12_method_11_code 139 = .ok (.getfield 121, 3) := by decide +kernel
theorem kRO_triangle_d142 : decode prog_12_method_11_code 142 = .ok (.istore 12, 2) := by decide +kernel
theorem kRO_triangle_d144 : decode prog_12_method_11_code 144 = .ok (.iload 10, 2) := by decide +kernel
theorem kRO_triangle_d146 : decode prog_12_method_11_code 146 = .ok (.ifCond .eq 7, 3) := by decide +kernel
theorem kRO_triangle_d149 : decode prog_12_method_11_code 149 = .ok (.iconst 1, 1) := by decide +kernel
theorem kRO_triangle_d150 : decode prog_12_method_11_code 150 = .ok (.goto 33, 3) := by decide +kernel
theorem kRO_triangle_d153 : decode prog_12_method_11_code 153 = .ok (.aload_n 0, 1) := by decide +kernel
theorem kRO_triangle_d154 : decode prog_12_method_11_code 154 = .ok (.getfield 28, 3) := by decide +kernel
theorem kRO_triangle_d157 : decode prog_12_method_11_code 157 = .ok (.iload 8, 2) := by decide +kernel
theorem kRO_triangle_d159 : decode prog_12_method_11_code 159 = .ok (.invokevirtual 133, 3) := by decide +kernel
theorem kRO_triangle_d162 : decode prog_12_method_11_code 162 = .ok (.ifCond .ge 17, 3) := by decide +kernel
theorem kRO_triangle_d165 : decode prog_12_method_11_code 165 = .ok (.aload_n 0, 1) := by decide +kernel
theorem kRO_triangle_d166 : decode prog_12_method_11_code 166 = .ok (.getfield 28, 3) := by decide +kernel
theorem kRO_triangle_d169 : decode prog_12_method_11_code 169 = .ok (.aload_n 0, 1) := by decide +kernel
theorem kRO_triangle_d170 : decode prog_12_method_11_code 170 = .ok (.getfield 124, 3) := by decide +kernel
theorem kRO_triangle_d173 : decode prog_12_method_11_code 173 = .ok (.invokevirtual 62, 3) := by decide +kernel
theorem kRO_triangle_d176 : decode prog_12_method_11_code 176 = .ok (.goto 7, 3) := by decide +kernel
theorem kRO_triangle_d179 : decode prog_12_method_11_code 179 = .ok (.aload_n 0, 1) := by decide +kernel
theorem kRO_triangle_d180 : decode prog_12_method_11_code 180 = .ok (.getfield 124, 3) := by decide +kernel
theorem kRO_triangle_d183 : decode prog_12_method_11_code 183 = .ok (.istore 13, 2) := by decide +kernel
theorem kRO_triangle_d185 : decode prog_12_method_11_code 185 = .ok (.iload 10, 2) := by decide +kernel
theorem kRO_triangle_d187 : decode prog_12_method_11_code 187 = .ok (.ifCond .eq 7, 3) := by decide +kernel
theorem kRO_triangle_d190 : decode prog_12_method_11_code 190 = .ok (.iconst 0, 1) := by decide +kernel
theorem kRO_triangle_d191 : decode prog_12_method_11_code 191 = .ok (.goto 14, 3) := by decide +kernel
theorem kRO_triangle_d194 : decode prog_12_method_11_code 194 = .ok (.aload_n 0, 1) := by decide +kernel
theorem kRO_triangle_d195 : decode prog_12_method_11_code 195 = .ok (.getfield 28, 3) := by decide +kernel
theorem kRO_triangle_d198 : decode prog_12_method_11_code 198 = .ok (.iload 9, 2) := by decide +kernel
theorem kRO_triangle_d200 : decode prog_12_method_11_code 200 = .ok (.iload 11, 2) := by decide +kernel
theorem kRO_triangle_d202 : decode prog_12_method_11_code 202 = .ok (.invokevirtual 109, 3) := by decide +kernel
theorem kRO_triangle_d205 : decode prog_12_method_11_code 205 = .ok (.istore 14, 2) := by decide +kernel
theorem kRO_triangle_d207 : decode prog_12_method_11_code 207 = .ok (.iload 10, 2) := by decide +kernel
theorem kRO_triangle_d209 : decode prog_12_method_11_code 209 = .ok (.ifCond .eq 7, 3) := by decide +kernel
theorem kRO_triangle_d212 : decode prog_12_method_11_code 212 = .ok (.iconst 1, 1) := by decide +kernel
theorem kRO_triangle_d213 : decode prog_12_method_11_code 213 = .ok (.goto 14, 3) := by decide +kernel
theorem kRO_triangle_d216 : decode prog_12_method_11_code 216 = .ok (.aload_n 0, 1) := by decide +kernel
theorem kRO_triangle_d217 : decode prog_12_method_11_code 217 = .ok (.getfield 28, 3) := by decide +kernel
theorem kRO_triangle_d220 : decode prog_12_method_11_code 220 = .ok (.iload 8, 2) := by decide +kernel
theorem kRO_triangle_d222 : decode prog_12_method_11_code 222 = .ok (.iload 11, 2) := by decide +kernel
theorem kRO_triangle_d224 : decode prog_12_method_11_code 224 = .ok (.invokevirtual 109, 3) := by decide +kernel
theorem kRO_triangle_d227 : decode prog_12_method_11_code 227 = .ok (.istore 15, 2) := by decide +kernel
theorem kRO_triangle_d229 : decode prog_12_method_11_code 229 = .ok (.iload 6, 2) := by decide +kernel
theorem kRO_triangle_d231 : decode prog_12_method_11_code 231 = .ok (.istore 16, 2) := by decide +kernel
theorem kRO_triangle_d233 : decode prog_12_method_11_code 233 = .ok (.iload 16, 2) := by decide +kernel
theorem kRO_triangle_d235 : decode prog_12_method_11_code 235 = .ok (.iload 5, 2) := by decide +kernel
theorem kRO_triangle_d237 : decode prog_12_method_11_code 237 = .ok (.if_icmp .ge 185, 3) := by decide +kernel
theorem kRO_triangle_d240 : decode prog_12_method_11_code 240 = .ok (.aload_n 0, 1) := by decide +kernel
theorem kRO_triangle_d241 : decode prog_12_method_11_code 241 = .ok (.getfield 18, 3) := by decide +kernel
theorem kRO_triangle_d244 : decode prog_12_method_11_code 244 = .ok (.iload 4, 2) := by decide +kernel
theorem kRO_triangle_d246 : decode prog_12_method_11_code 246 = .ok (.iload 6, 2) := by decide +kernel
theorem kRO_triangle_d248 : decode prog_12_method_11_code 248 = .ok (.iload 5, 2) := by decide +kernel
theorem kRO_triangle_d250 : decode prog_12_method_11_code 250 = .ok (.imul, 1) := by decide +kernel
theorem kRO_triangle_d251 : decode prog_12_method_11_code 251 = .ok (.iload 16, 2) := by decide +kernel
theorem kRO_triangle_d253 : decode prog_12_method_11_code 253 = .ok (.iadd, 1) := by decide +kernel
theorem kRO_triangle_d254 : decode prog_12_method_11_code 254 = .ok (.invokevirtual 59, 3) := by decide +kernel
theorem kRO_triangle_d257 : decode prog_12_method_11_code 257 = .ok (.istore 17, 2) := by decide +kernel
theorem kRO_triangle_d259 : decode prog_12_method_11_code 259 = .ok (.aload_n 0, 1) := by decide +kernel
theorem kRO_triangle_d260 : decode prog_12_method_11_code 260 = .ok (.getfield 18, 3) := by decide +kernel
theorem kRO_triangle_d263 : decode prog_12_method_11_code 263 = .ok (.iload 4, 2) := by decide +kernel
theorem kRO_triangle_d265 : decode prog_12_method_11_code 265 = .ok (.iload 7, 2) := by decide +kernel
theorem kRO_triangle_d267 : decode prog_12_method_11_code 267 = .ok (.iload 5, 2) := by decide +kernel
theorem kRO_triangle_d269 : decode prog_12_method_11_code 269 = .ok (.imul, 1) := by decide +kernel
theorem kRO_triangle_d270 : decode prog_12_method_11_code 270 = .ok (.iload 16, 2) := by decide +kernel
theorem kRO_triangle_d272 : decode prog_12_method_11_code 272 = .ok (.iadd, 1) := by decide +kernel
theorem kRO_triangle_d273 : decode prog_12_method_11_code 273 = .ok (.invokevirtual 59, 3) := by decide +kernel
theorem kRO_triangle_d276 : decode prog_12_method_11_code 276 = .ok (.istore 18, 2) := by decide +kernel
theorem kRO_triangle_d278 : decode prog_12_method_11_code 278 = .ok (.aload_n 0, 1) := by decide +kernel
theorem kRO_triangle_d279 : decode prog_12_method_11_code 279 = .ok (.getfield 28, 3) := by decide +kernel
theorem kRO_triangle_d282 : decode prog_12_method_11_code 282 = .ok (.aload_n 0, 1) := by decide +kernel
theorem kRO_triangle_d283 : decode prog_12_method_11_code 283 = .ok (.getfield 28, 3) := by decide +kernel
theorem kRO_triangle_d286 : decode prog_12_method_11_code 286 = .ok (.iload 12, 2) := by decide +kernel
theorem kRO_triangle_d288 : decode prog_12_method_11_code 288 = .ok (.iload 17, 2) := by decide +kernel
theorem kRO_triangle_d290 : decode prog_12_method_11_code 290 = .ok (.invokevirtual 115, 3) := by decide +kernel
theorem kRO_triangle_d293 : decode prog_12_method_11_code 293 = .ok (.aload_n 0, 1) := by decide +kernel
theorem kRO_triangle_d294 : decode prog_12_method_11_code 294 = .ok (.getfield 28, 3) := by decide +kernel
theorem kRO_triangle_d297 : decode prog_12_method_11_code 297 = .ok (.iload 13, 2) := by decide +kernel
theorem kRO_triangle_d299 : decode prog_12_method_11_code 299 = .ok (.iload 18, 2) := by decide +kernel
theorem kRO_triangle_d301 : decode prog_12_method_11_code 301 = .ok (.invokevirtual 115, 3) := by decide +kernel
theorem kRO_triangle_d304 : decode prog_12_method_11_code 304 = .ok (.invokevirtual 136, 3) := by decide +kernel
theorem kRO_triangle_d307 : decode prog_12_method_11_code 307 = .ok (.istore 19, 2) := by decide +kernel
theorem kRO_triangle_d309 : decode prog_12_method_11_code 309 = .ok (.iload 10, 2) := by decide +kernel
theorem kRO_triangle_d311 : decode prog_12_method_11_code 311 = .ok (.ifCond .eq 8, 3) := by decide +kernel
theorem kRO_triangle_d314 : decode prog_12_method_11_code 314 = .ok (.iload 17, 2) := by decide +kernel
theorem kRO_triangle_d316 : decode prog_12_method_11_code 316 = .ok (.goto 32, 3) := by decide +kernel
theorem kRO_triangle_d319 : decode prog_12_method_11_code 319 = .ok (.aload_n 0, 1) := by decide +kernel
theorem kRO_triangle_d320 : decode prog_12_method_11_code 320 = .ok (.getfield 28, 3) := by decide +kernel
theorem kRO_triangle_d323 : decode prog_12_method_11_code 323 = .ok (.aload_n 0, 1) := by decide +kernel
theorem kRO_triangle_d324 : decode prog_12_method_11_code 324 = .ok (.getfield 28, 3) := by decide +kernel
theorem kRO_triangle_d327 : decode prog_12_method_11_code 327 = .ok (.iload 14, 2) := by decide +kernel
theorem kRO_triangle_d329 : decode prog_12_method_11_code 329 = .ok (.iload 18, 2) := by decide +kernel
theorem kRO_triangle_d331 : decode prog_12_method_11_code 331 = .ok (.invokevirtual 115, 3) := by decide +kernel
theorem kRO_triangle_d334 : decode prog_12_method_11_code 334 = .ok (.aload_n 0, 1) := by decide +kernel
theorem kRO_triangle_d335 : decode prog_12_method_11_code 335 = .ok (.getfield 28, 3) := by decide +kernel
theorem kRO_triangle_d338 : decode prog_12_method_11_code 338 = .ok (.iload 15, 2) := by decide +kernel
theorem kRO_triangle_d340 : decode prog_12_method_11_code 340 = .ok (.iload 17, 2) := by decide +kernel
theorem kRO_triangle_d342 : decode prog_12_method_11_code 342 = .ok (.invokevirtual 115, 3) := by decide +kernel
theorem kRO_triangle_d345 : decode prog_12_method_11_code 345 = .ok (.invokevirtual 118, 3) := by decide +kernel
theorem kRO_triangle_d348 : decode prog_12_method_11_code 348 = .ok (.istore 20, 2) := by decide +kernel
theorem kRO_triangle_d350 : decode prog_12_method_11_code 350 = .ok (.aload_n 0, 1) := by decide +kernel
theorem kRO_triangle_d351 : decode prog_12_method_11_code 351 = .ok (.iload 4, 2) := by decide +kernel
theorem kRO_triangle_d353 : decode prog_12_method_11_code 353 = .ok (.iload 6, 2) := by decide +kernel
theorem kRO_triangle_d355 : decode prog_12_method_11_code 355 = .ok (.iload 5, 2) := by decide +kernel
theorem kRO_triangle_d357 : decode prog_12_method_11_code 357 = .ok (.imul, 1) := by decide +kernel
theorem kRO_triangle_d358 : decode prog_12_method_11_code 358 = .ok (.iload 16, 2) := by decide +kernel
theorem kRO_triangle_d360 : decode prog_12_method_11_code 360 = .ok (.iadd, 1) := by decide +kernel
theorem kRO_triangle_d361 : decode prog_12_method_11_code 361 = .ok (.iload 16, 2) := by decide +kernel
theorem kRO_triangle_d363 : decode prog_12_method_11_code 363 = .ok (.iload 6, 2) := by decide +kernel
theorem kRO_triangle_d365 : decode prog_12_method_11_code 365 = .ok (.if_icmp .ne 8, 3) := by decide +kernel
theorem kRO_triangle_d368 : decode prog_12_method_11_code 368 = .ok (.iload 19, 2) := by decide +kernel
theorem kRO_triangle_d370 : decode prog_12_method_11_code 370 = .ok (.goto 10, 3) := by decide +kernel
theorem kRO_triangle_d373 : decode prog_12_method_11_code 373 = .ok (.aload_n 0, 1) := by decide +kernel
theorem kRO_triangle_d374 : decode prog_12_method_11_code 374 = .ok (.iload 19, 2) := by decide +kernel
theorem kRO_triangle_d376 : decode prog_12_method_11_code 376 = .ok (.iload_n 3, 1) := by decide +kernel
theorem kRO_triangle_d377 : decode prog_12_method_11_code 377 = .ok (.invokevirtual 139, 3) := by decide +kernel
theorem kRO_triangle_d380 : decode prog_12_method_11_code 380 = .ok (.invokevirtual 142, 3) := by decide +kernel
theorem kRO_triangle_d383 : decode prog_12_method_11_code 383 = .ok (.aload_n 0, 1) := by decide +kernel
theorem kRO_triangle_d384 : decode prog_12_method_11_code 384 = .ok (.iload 4, 2) := by decide +kernel
theorem kRO_triangle_d386 : decode prog_12_method_11_code 386 = .ok (.iload 7, 2) := by decide +kernel
theorem kRO_triangle_d388 : decode prog_12_method_11_code 388 = .ok (.iload 5, 2) := by decide +kernel
theorem kRO_triangle_d390 : decode prog_12_method_11_code 390 = .ok (.imul, 1) := by decide +kernel
theorem kRO_triangle_d391 : decode prog_12_method_11_code 391 = .ok (.iload 16, 2) := by decide +kernel
theorem kRO_triangle_d393 : decode prog_12_method_11_code 393 = .ok (.iadd, 1) := by decide +kernel
theorem kRO_triangle_d394 : decode prog_12_method_11_code 394 = .ok (.iload 16, 2) := by decide +kernel
theorem kRO_triangle_d396 : decode prog_12_method_11_code 396 = .ok (.iload 6, 2) := by decide +kernel
theorem kRO_triangle_d398 : decode prog_12_method_11_code 398 = .ok (.if_icmp .ne 8, 3) := by decide +kernel
theorem kRO_triangle_d401 : decode prog_12_method_11_code 401 = .ok (.iload 20, 2) := by decide +kernel
theorem kRO_triangle_d403 : decode prog_12_method_11_code 403 = .ok (.goto 10, 3) := by decide +kernel
theorem kRO_triangle_d406 : decode prog_12_method_11_code 406 = .ok (.aload_n 0, 1) := by decide +kernel
theorem kRO_triangle_d407 : decode prog_12_method_11_code 407 = .ok (.iload 20, 2) := by decide +kernel
theorem kRO_triangle_d409 : decode prog_12_method_11_code 409 = .ok (.iload_n 3, 1) := by decide +kernel
theorem kRO_triangle_d410 : decode prog_12_method_11_code 410 = .ok (.invokevirtual 139, 3) := by decide +kernel
theorem kRO_triangle_d413 : decode prog_12_method_11_code 413 = .ok (.invokevirtual 142, 3) := by decide +kernel
theorem kRO_triangle_d416 : decode prog_12_method_11_code 416 = .ok (.iinc 16 1, 3) := by decide +kernel
theorem kRO_triangle_d419 : decode prog_12_method_11_code 419 = .ok (.goto (-186), 3) := by decide +kernel
theorem kRO_triangle_d422 : decode prog_12_method_11_code 422 = .ok (.aload_n 0, 1) := by decide +kernel
theorem kRO_triangle_d423 : decode prog_12_method_11_code 423 = .ok (.getfield 28, 3) := by decide +kernel
theorem kRO_triangle_d426 : decode prog_12_method_11_code 426 = .ok (.getfield 29, 3) := by decide +kernel
theorem kRO_triangle_d429 : decode prog_12_method_11_code 429 = .ok (.iload_n 2, 1) := by decide +kernel
theorem kRO_triangle_d430 : decode prog_12_method_11_code 430 = .ok (.isub, 1) := by decide +kernel
theorem kRO_triangle_d431 : decode prog_12_method_11_code 431 = .ok (.ldc 145, 2) := by decide +kernel
theorem kRO_triangle_d433 : decode prog_12_method_11_code 433 = .ok (.if_icmp .le 35, 3) := by decide +kernel
theorem kRO_triangle_d436 : decode prog_12_method_11_code 436 = .ok (.aload_n 0, 1) := by decide +kernel
theorem kRO_triangle_d437 : decode prog_12_method_11_code 437 = .ok (.getfield 28, 3) := by decide +kernel
theorem kRO_triangle_d440 : decode prog_12_method_11_code 440 = .ok (.getfield 29, 3) := by decide +kernel
theorem kRO_triangle_d443 : decode prog_12_method_11_code 443 = .ok (.istore 16, 2) := by decide +kernel
theorem kRO_triangle_d445 : decode prog_12_method_11_code 445 = .ok (.aload_n 0, 1) := by decide +kernel
theorem kRO_triangle_d446 : decode prog_12_method_11_code 446 = .ok (.getfield 18, 3) := by decide +kernel
theorem kRO_triangle_d449 : decode prog_12_method_11_code 449 = .ok (.iload_n 2, 1) := by decide +kernel
theorem kRO_triangle_d450 : decode prog_12_method_11_code 450 = .ok (.iload 4, 2) := by decide +kernel
theorem kRO_triangle_d452 : decode prog_12_method_11_code 452 = .ok (.iload 16, 2) := by decide +kernel
theorem kRO_triangle_d454 : decode prog_12_method_11_code 454 = .ok (.aload_n 0, 1) := by decide +kernel
theorem kRO_triangle_d455 : decode prog_12_method_11_code 455 = .ok (.getfield 18, 3) := by decide +kernel
theorem kRO_triangle_d458 : decode prog_12_method_11_code 458 = .ok (.iload 4, 2) := by decide +kernel
theorem kRO_triangle_d460 : decode prog_12_method_11_code 460 = .ok (.invokevirtual 35, 3) := by decide +kernel
theorem kRO_triangle_d463 : decode prog_12_method_11_code 463 = .ok (.invokevirtual 83, 3) := by decide +kernel
theorem kRO_triangle_d466 : decode prog_12_method_11_code 466 = .ok (.istore 4, 2) := by decide +kernel
theorem kRO_triangle_d468 : decode prog_12_method_11_code 468 = .ok (.iinc 7 1, 3) := by decide +kernel
theorem kRO_triangle_d471 : decode prog_12_method_11_code 471 = .ok (.goto (-441), 3) := by decide +kernel
theorem kRO_triangle_d474 : decode prog_12_method_11_code 474 = .ok (.iinc 6 1, 3) := by decide +kernel
theorem kRO_triangle_d477 : decode prog_12_method_11_code 477 = .ok (.goto (-460), 3) := by decide +kernel
theorem kRO_triangle_d480 : decode prog_12_method_11_code 480 = .ok (.iconst 1, 1) := by decide +kernel
theorem kRO_triangle_d481 : decode prog_12_method_11_code 481 = .ok (.istore 6, 2) := by decide +kernel
theorem kRO_triangle_d483 : decode prog_12_method_11_code 483 = .ok (.iload 6, 2) := by decide +kernel
theorem kRO_triangle_d485 : decode prog_12_method_11_code 485 = .ok (.iload 5, 2) := by decide +kernel
theorem kRO_triangle_d487 : decode prog_12_method_11_code 487 = .ok (.if_icmp .ge 154, 3) := by decide +kernel
theorem kRO_triangle_d490 : decode prog_12_method_11_code 490 = .ok (.iconst 0, 1) := by decide +kernel
theorem kRO_triangle_d491 : decode prog_12_method_11_code 491 = .ok (.istore 7, 2) := by decide +kernel
theorem kRO_triangle_d493 : decode prog_12_method_11_code 493 = .ok (.iload 7, 2) := by decide +kernel
theorem kRO_triangle_d495 : decode prog_12_method_11_code 495 = .ok (.iload 6, 2) := by decide +kernel
theorem kRO_triangle_d497 : decode prog_12_method_11_code 497 = .ok (.if_icmp .ge 138, 3) := by decide +kernel
theorem kRO_triangle_d500 : decode prog_12_method_11_code 500 = .ok (.aload_n 0, 1) := by decide +kernel
theorem kRO_triangle_d501 : decode prog_12_method_11_code 501 = .ok (.getfield 28, 3) := by decide +kernel
theorem kRO_triangle_d504 : decode prog_12_method_11_code 504 = .ok (.aload_n 0, 1) := by decide +kernel
theorem kRO_triangle_d505 : decode prog_12_method_11_code 505 = .ok (.getfield 18, 3) := by decide +kernel
theorem kRO_triangle_d508 : decode prog_12_method_11_code 508 = .ok (.iload 4, 2) := by decide +kernel
theorem kRO_triangle_d510 : decode prog_12_method_11_code 510 = .ok (.iload 7, 2) := by decide +kernel
theorem kRO_triangle_d512 : decode prog_12_method_11_code 512 = .ok (.iload 5, 2) := by decide +kernel
theorem kRO_triangle_d514 : decode prog_12_method_11_code 514 = .ok (.imul, 1) := by decide +kernel
theorem kRO_triangle_d515 : decode prog_12_method_11_code 515 = .ok (.iload 6, 2) := by decide +kernel
theorem kRO_triangle_d517 : decode prog_12_method_11_code 517 = .ok (.iadd, 1) := by decide +kernel
theorem kRO_triangle_d518 : decode prog_12_method_11_code 518 = .ok (.invokevirtual 59, 3) := by decide +kernel
theorem kRO_triangle_d521 : decode prog_12_method_11_code 521 = .ok (.aload_n 0, 1) := by decide +kernel
theorem kRO_triangle_d522 : decode prog_12_method_11_code 522 = .ok (.getfield 18, 3) := by decide +kernel
theorem kRO_triangle_d525 : decode prog_12_method_11_code 525 = .ok (.iload 4, 2) := by decide +kernel
theorem kRO_triangle_d527 : decode prog_12_method_11_code 527 = .ok (.iload 6, 2) := by decide +kernel
theorem kRO_triangle_d529 : decode prog_12_method_11_code 529 = .ok (.iload 5, 2) := by decide +kernel
theorem kRO_triangle_d531 : decode prog_12_method_11_code 531 = .ok (.imul, 1) := by decide +kernel
theorem kRO_triangle_d532 : decode prog_12_method_11_code 532 = .ok (.iload 6, 2) := by decide +kernel
theorem kRO_triangle_d534 : decode prog_12_method_11_code 534 = .ok (.iadd, 1) := by decide +kernel
theorem kRO_triangle_d535 : decode prog_12_method_11_code 535 = .ok (.invokevirtual 59, 3) := by decide +kernel
theorem kRO_triangle_d538 : decode prog_12_method_11_code 538 = .ok (.invokevirtual 109, 3) := by decide +kernel
theorem kRO_triangle_d541 : decode prog_12_method_11_code 541 = .ok (.istore 8, 2) := by decide +kernel
theorem kRO_triangle_d543 : decode prog_12_method_11_code 543 = .ok (.iload 6, 2) := by decide +kernel
theorem kRO_triangle_d545 : decode prog_12_method_11_code 545 = .ok (.istore 9, 2) := by decide +kernel
theorem kRO_triangle_d547 : decode prog_12_method_11_code 547 = .ok (.iload 9, 2) := by decide +kernel
theorem kRO_triangle_d549 : decode prog_12_method_11_code 549 = .ok (.iload 5, 2) := by decide +kernel
theorem kRO_triangle_d551 : decode prog_12_method_11_code 551 = .ok (.if_icmp .ge 78, 3) := by decide +kernel
theorem kRO_triangle_d554 : decode prog_12_method_11_code 554 = .ok (.iload 8, 2) := by decide +kernel
theorem kRO_triangle_d556 : decode prog_12_method_11_code 556 = .ok (.ifCond .eq 73, 3) := by decide +kernel
theorem kRO_triangle_d559 : decode prog_12_method_11_code 559 = .ok (.aload_n 0, 1) := by decide +kernel
theorem kRO_triangle_d560 : decode prog_12_method_11_code 560 = .ok (.iload 4, 2) := by decide +kernel
theorem kRO_triangle_d562 : decode prog_12_method_11_code 562 = .ok (.iload 7, 2) := by decide +kernel
theorem kRO_triangle_d564 : decode prog_12_method_11_code 564 = .ok (.iload 5, 2) := by decide +kernel
theorem kRO_triangle_d566 : decode prog_12_method_11_code 566 = .ok (.imul, 1) := by decide +kernel
theorem kRO_triangle_d567 : decode prog_12_method_11_code 567 = .ok (.iload 9, 2) := by decide +kernel
theorem kRO_triangle_d569 : decode prog_12_method_11_code 569 = .ok (.iadd, 1) := by decide +kernel
theorem kRO_triangle_d570 : decode prog_12_method_11_code 570 = .ok (.aload_n 0, 1) := by decide +kernel
theorem kRO_triangle_d571 : decode prog_12_method_11_code 571 = .ok (.getfield 28, 3) := by decide +kernel
theorem kRO_triangle_d574 : decode prog_12_method_11_code 574 = .ok (.aload_n 0, 1) := by decide +kernel
theorem kRO_triangle_d575 : decode prog_12_method_11_code 575 = .ok (.getfield 18, 3) := by decide +kernel
theorem kRO_triangle_d578 : decode prog_12_method_11_code 578 = .ok (.iload 4, 2) := by decide +kernel
theorem kRO_triangle_d580 : decode prog_12_method_11_code 580 = .ok (.iload 7, 2) := by decide +kernel
theorem kRO_triangle_d582 : decode prog_12_method_11_code 582 = .ok (.iload 5, 2) := by decide +kernel
theorem kRO_triangle_d584 : decode prog_12_method_11_code 584 = .ok (.imul, 1) := by decide +kernel
theorem kRO_triangle_d585 : decode prog_12_method_11_code 585 = .ok (.iload 9, 2) := by decide +kernel
theorem kRO_triangle_d587 : decode prog_12_method_11_code 587 = .ok (.iadd, 1) := by decide +kernel
theorem kRO_triangle_d588 : decode prog_12_method_11_code 588 = .ok (.invokevirtual 59, 3) := by decide +kernel
theorem kRO_triangle_d591 : decode prog_12_method_11_code 591 = .ok (.aload_n 0, 1) := by decide +kernel
theorem kRO_triangle_d592 : decode prog_12_method_11_code 592 = .ok (.getfield 28, 3) := by decide +kernel
theorem kRO_triangle_d595 : decode prog_12_method_11_code 595 = .ok (.iload 8, 2) := by decide +kernel
theorem kRO_triangle_d597 : decode prog_12_method_11_code 597 = .ok (.aload_n 0, 1) := by decide +kernel
theorem kRO_triangle_d598 : decode prog_12_method_11_code 598 = .ok (.getfield 18, 3) := by decide +kernel
theorem kRO_triangle_d601 : decode prog_12_method_11_code 601 = .ok (.iload 4, 2) := by decide +kernel
theorem kRO_triangle_d603 : decode prog_12_method_11_code 603 = .ok (.iload 6, 2) := by decide +kernel
theorem kRO_triangle_d605 : decode prog_12_method_11_code 605 = .ok (.iload 5, 2) := by decide +kernel
theorem kRO_triangle_d607 : decode prog_12_method_11_code 607 = .ok (.imul, 1) := by decide +kernel
theorem kRO_triangle_d608 : decode prog_12_method_11_code 608 = .ok (.iload 9, 2) := by decide +kernel
theorem kRO_triangle_d610 : decode prog_12_method_11_code 610 = .ok (.iadd, 1) := by decide +kernel
theorem kRO_triangle_d611 : decode prog_12_method_11_code 611 = .ok (.invokevirtual 59, 3) := by decide +kernel
theorem kRO_triangle_d614 : decode prog_12_method_11_code 614 = .ok (.invokevirtual 115, 3) := by decide +kernel
theorem kRO_triangle_d617 : decode prog_12_method_11_code 617 = .ok (.invokevirtual 118, 3) := by decide +kernel
theorem kRO_triangle_d620 : decode prog_12_method_11_code 620 = .ok (.invokevirtual 142, 3) := by decide +kernel
theorem kRO_triangle_d623 : decode prog_12_method_11_code 623 = .ok (.iinc 9 1, 3) := by decide +kernel
theorem kRO_triangle_d626 : decode prog_12_method_11_code 626 = .ok (.goto (-79), 3) := by decide +kernel
theorem kRO_triangle_d629 : decode prog_12_method_11_code 629 = .ok (.iinc 7 1, 3) := by decide +kernel
theorem kRO_triangle_d632 : decode prog_12_method_11_code 632 = .ok (.goto (-139), 3) := by decide +kernel
theorem kRO_triangle_d635 : decode prog_12_method_11_code 635 = .ok (.iinc 6 1, 3) := by decide +kernel
theorem kRO_triangle_d638 : decode prog_12_method_11_code 638 = .ok (.goto (-155), 3) := by decide +kernel
theorem kRO_triangle_d641 : decode prog_12_method_11_code 641 = .ok (.iload 4, 2) := by decide +kernel
theorem kRO_triangle_d643 : decode prog_12_method_11_code 643 = .ok (.ireturn, 1) := by decide +kernel
theorem kRO_common_d0 : decode prog_12_method_8_code 0 = .ok (.aload_n 0, 1) := by decide +kernel
theorem kRO_common_d1 : decode prog_12_method_8_code 1 = .ok (.getfield 28, 3) := by decide +kernel
theorem kRO_common_d4 : decode prog_12_method_8_code 4 = .ok (.getfield 29, 3) := by decide +kernel
theorem kRO_common_d7 : decode prog_12_method_8_code 7 = .ok (.istore_n 3, 1) := by decide +kernel
theorem kRO_common_d8 : decode prog_12_method_8_code 8 = .ok (.iload_n 1, 1) := by decide +kernel
theorem kRO_common_d9 : decode prog_12_method_8_code 9 = .ok (.istore 4, 2) := by decide +kernel
theorem kRO_common_d11 : decode prog_12_method_8_code 11 = .ok (.iload_n 2, 1) := by decide +kernel
theorem kRO_common_d12 : decode prog_12_method_8_code 12 = .ok (.istore 5, 2) := by decide +kernel
theorem kRO_common_d14 : decode prog_12_method_8_code 14 = .ok (.iconst 1, 1) := by decide +kernel
theorem kRO_common_d15 : decode prog_12_method_8_code 15 = .ok (.istore 6, 2) := by decide +kernel
theorem kRO_common_d17 : decode prog_12_method_8_code 17 = .ok (.iconst 0, 1) := by decide +kernel
theorem kRO_common_d18 : decode prog_12_method_8_code 18 = .ok (.istore 7, 2) := by decide +kernel
theorem kRO_common_d20 : decode prog_12_method_8_code 20 = .ok (.iconst 0, 1) := by decide +kernel
theorem kRO_common_d21 : decode prog_12_method_8_code 21 = .ok (.istore 8, 2) := by decide +kernel
theorem kRO_common_d23 : decode prog_12_method_8_code 23 = .ok (.iconst 1, 1) := by decide +kernel
theorem kRO_common_d24 : decode prog_12_method_8_code 24 = .ok (.istore 9, 2) := by decide +kernel
theorem kRO_common_d26 : decode prog_12_method_8_code 26 = .ok (.iload 5, 2) := by decide +kernel
theorem kRO_common_d28 : decode prog_12_method_8_code 28 = .ok (.ifCond .eq 279, 3) := by decide +kernel
theorem kRO_common_d31 : decode prog_12_method_8_code 31 = .ok (.aload_n 0, 1) := by decide +kernel
theorem kRO_common_d32 : decode prog_12_method_8_code 32 = .ok (.getfield 28, 3) := by decide +kernel
theorem kRO_common_d35 : decode prog_12_method_8_code 35 = .ok (.getfield 29, 3) := by decide +kernel
theorem kRO_common_d38 : decode prog_12_method_8_code 38 = .ok (.iload_n 3, 1) := by decide +kernel
theorem kRO_common_d39 : decode prog_12_method_8_code 39 = .ok (.isub, 1) := by decide +kernel
theorem kRO_common_d40 : decode prog_12_method_8_code 40 = .ok (.sipush 30000, 3) := by decide +kernel
theorem kRO_common_d43 : decode prog_12_method_8_code 43 = .ok (.if_icmp .le 171, 3) := by decide +kernel
theorem kRO_common_d46 : decode prog_12_method_8_code 46 = .ok (.aload_n 0, 1) := by decide +kernel
theorem kRO_common_d47 : decode prog_12_method_8_code 47 = .ok (.getfield 28, 3) := by decide +kernel
theorem kRO_common_d50 : decode prog_12_method_8_code 50 = .ok (.iload 4, 2) := by decide +kernel
theorem kRO_common_d52 : decode prog_12_method_8_code 52 = .ok (.invokevirtual 71, 3) := by decide +kernel
theorem kRO_common_d55 : decode prog_12_method_8_code 55 = .ok (.istore 4, 2) := by decide +kernel
theorem kRO_common_d57 : decode prog_12_method_8_code 57 = .ok (.aload_n 0, 1) := by decide +kernel
theorem kRO_common_d58 : decode prog_12_method_8_code 58 = .ok (.getfield 28, 3) := by decide +kernel
theorem kRO_common_d61 : decode prog_12_method_8_code 61 = .ok (.iload 5, 2) := by decide +kernel
theorem kRO_common_d63 : decode prog_12_method_8_code 63 = .ok (.invokevirtual 71, 3) := by decide +kernel
theorem kRO_common_d66 : decode prog_12_method_8_code 66 = .ok (.istore 5, 2) := by decide +kernel
theorem kRO_common_d68 : decode prog_12_method_8_code 68 = .ok (.aload_n 0, 1) := by decide +kernel
theorem kRO_common_d69 : decode prog_12_method_8_code 69 = .ok (.getfield 28, 3) := by decide +kernel
theorem kRO_common_d72 : decode prog_12_method_8_code 72 = .ok (.iload 6, 2) := by decide +kernel
theorem kRO_common_d74 : decode prog_12_method_8_code 74 = .ok (.invokevirtual 71, 3) := by decide +kernel
theorem kRO_common_d77 : decode prog_12_method_8_code 77 = .ok (.istore 6, 2) := by decide +kernel
theorem kRO_common_d79 : decode prog_12_method_8_code 79 = .ok (.aload_n 0, 1) := by decide +kernel
theorem kRO_common_d80 : decode prog_12_method_8_code 80 = .ok (.getfield 28, 3) := by decide +kernel
theorem kRO_common_d83 : decode prog_12_method_8_code 83 = .ok (.iload 7, 2) := by decide +kernel
theorem kRO_common_d85 : decode prog_12_method_8_code 85 = .ok (.invokevirtual 71, 3) := by decide +kernel
theorem kRO_common_d88 : decode prog_12_method_8_code 88 = .ok (.istore 7, 2) := by decide +kernel
theorem kRO_common_d90 : decode prog_12_method_8_code 90 = .ok (.aload_n 0, 1) := by decide +kernel
theorem kRO_common_d91 : decode prog_12_method_8_code 91 = .ok (.getfield 28, 3) := by decide +kernel
theorem kRO_common_d94 : decode prog_12_method_8_code 94 = .ok (.iload 8, 2) := by decide +kernel
theorem kRO_common_d96 : decode prog_12_method_8_code 96 = .ok (.invokevirtual 71, 3) := by decide +kernel
theorem kRO_common_d99 : decode prog_12_method_8_code 99 = .ok (.istore 8, 2) := by decide +kernel
theorem kRO_common_d101 : decode prog_12_method_8_code 101 = .ok (.aload_n 0, 1) := by decide +kernel
theorem kRO_common_d102 : decode prog_12_method_8_code 102 = .ok (.getfield 28, 3) := by decide +kernel
theorem kRO_common_d105 : decode prog_12_method_8_code 105 = .ok (.iload 9, 2) := by decide +kernel
theorem kRO_common_d107 : decode prog_12_method_8_code 107 = .ok (.invokevirtual 71, 3) := by decide +kernel
theorem kRO_common_d110 : decode prog_12_method_8_code 110 = .ok (.istore 9, 2) := by decide +kernel
theorem kRO_common_d112 : decode prog_12_method_8_code 112 = .ok (.aload_n 0, 1) := by decide +kernel
theorem kRO_common_d113 : decode prog_12_method_8_code 113 = .ok (.getfield 28, 3) := by decide +kernel
theorem kRO_common_d116 : decode prog_12_method_8_code 116 = .ok (.iload 4, 2) := by decide +kernel
theorem kRO_common_d118 : decode prog_12_method_8_code 118 = .ok (.iload_n 3, 1) := by decide +kernel
theorem kRO_common_d119 : decode prog_12_method_8_code 119 = .ok (.invokevirtual 106, 3) := by decide +kernel
theorem kRO_common_d122 : decode prog_12_method_8_code 122 = .ok (.istore 4, 2) := by decide +kernel
theorem kRO_common_d124 : decode prog_12_method_8_code 124 = .ok (.aload_n 0, 1) := by decide +kernel
theorem kRO_common_d125 : decode prog_12_method_8_code 125 = .ok (.getfield 28, 3) := by decide +kernel
theorem kRO_common_d128 : decode prog_12_method_8_code 128 = .ok (.iload 5, 2) := by decide +kernel
theorem kRO_common_d130 : decode prog_12_method_8_code 130 = .ok (.aload_n 0, 1) := by decide +kernel
theorem kRO_common_d131 : decode prog_12_method_8_code 131 = .ok (.getfield 28, 3) := by decide +kernel
theorem kRO_common_d134 : decode prog_12_method_8_code 134 = .ok (.getfield 29, 3) := by decide +kernel
theorem kRO_common_d137 : decode prog_12_method_8_code 137 = .ok (.invokevirtual 106, 3) := by decide +kernel
theorem kRO_common_d140 : decode prog_12_method_8_code 140 = .ok (.istore 5, 2) := by decide +kernel
theorem kRO_common_d142 : decode prog_12_method_8_code 142 = .ok (.aload_n 0, 1) := by decide +kernel
theorem kRO_common_d143 : decode prog_12_method_8_code 143 = .ok (.getfield 28, 3) := by decide +kernel
theorem kRO_common_d146 : decode prog_12_method_8_code 146 = .ok (.iload 6, 2) := by decide +kernel
theorem kRO_common_d148 : decode prog_12_method_8_code 148 = .ok (.aload_n 0, 1) := by decide +kernel
theorem kRO_common_d149 : decode prog_12_method_8_code 149 = .ok (.getfield 28, 3) := by decide +kernel
theorem kRO_common_d152 : decode prog_12_method_8_code 152 = .ok (.getfield 29, 3) := by decide +kernel
theorem kRO_common_d155 : decode prog_12_method_8_code 155 = .ok (.invokevirtual 106, 3) := by decide +kernel
theorem kRO_common_d158 : decode prog_12_method_8_code 158 = .ok (.istore 6, 2) := by decide +kernel
theorem kRO_common_d160 : decode prog_12_method_8_code 160 = .ok (.aload_n 0, 1) := by decide +kernel
theorem kRO_common_d161 : decode prog_12_method_8_code 161 = .ok (.getfield 28, 3) := by decide +kernel
theorem kRO_common_d164 : decode prog_12_method_8_code 164 = .ok (.iload 7, 2) := by decide +kernel
theorem kRO_common_d166 : decode prog_12_method_8_code 166 = .ok (.aload_n 0, 1) := by decide +kernel
theorem kRO_common_d167 : decode prog_12_method_8_code 167 = .ok (.getfield 28, 3) := by decide +kernel
theorem kRO_common_d170 : decode prog_12_method_8_code 170 = .ok (.getfield 29, 3) := by decide +kernel
theorem kRO_common_d173 : decode prog_12_method_8_code 173 = .ok (.invokevirtual 106, 3) := by decide +kernel
theorem kRO_common_d176 : decode prog_12_method_8_code 176 = .ok (.istore 7, 2) := by decide +kernel
theorem kRO_common_d178 : decode prog_12_method_8_code 178 = .ok (.aload_n 0, 1) := by decide +kernel
theorem kRO_common_d179 : decode prog_12_method_8_code 179 = .ok (.getfield 28, 3) := by decide +kernel
theorem kRO_common_d182 : decode prog_12_method_8_code 182 = .ok (.iload 8, 2) := by decide +kernel
theorem kRO_common_d184 : decode prog_12_method_8_code 184 = .ok (.aload_n 0, 1) := by decide +kernel
theorem kRO_common_d185 : decode prog_12_method_8_code 185 = .ok (.getfield 28, 3) := by decide +kernel
theorem kRO_common_d188 : decode prog_12_method_8_code 188 = .ok (.getfield 29, 3) := by decide +kernel
theorem kRO_common_d191 : decode prog_12_method_8_code 191 = .ok (.invokevirtual 106, 3) := by decide +kernel
theorem kRO_common_d194 : decode prog_12_method_8_code 194 = .ok (.istore 8, 2) := by decide +kernel
theorem kRO_common_d196 : decode prog_12_method_8_code 196 = .ok (.aload_n 0, 1) := by decide +kernel
theorem kRO_common_d197 : decode prog_12_method_8_code 197 = .ok (.getfield 28, 3) := by decide +kernel
theorem kRO_common_d200 : decode prog_12_method_8_code 200 = .ok (.iload 9, 2) := by decide +kernel
theorem kRO_common_d202 : decode prog_12_method_8_code 202 = .ok (.aload_n 0, 1) := by decide +kernel
theorem kRO_common_d203 : decode prog_12_method_8_code 203 = .ok (.getfield 28, 3) := by decide +kernel
theorem kRO_common_d206 : decode prog_12_method_8_code 206 = .ok (.getfield 29, 3) := by decide +kernel
theorem kRO_common_d209 : decode prog_12_method_8_code 209 = .ok (.invokevirtual 106, 3) := by decide +kernel
theorem kRO_common_d212 : decode prog_12_method_8_code 212 = .ok (.istore 9, 2) := by decide +kernel
theorem kRO_common_d214 : decode prog_12_method_8_code 214 = .ok (.aload_n 0, 1) := by decide +kernel
theorem kRO_common_d215 : decode prog_12_method_8_code 215 = .ok (.getfield 28, 3) := by decide +kernel
theorem kRO_common_d218 : decode prog_12_method_8_code 218 = .ok (.iload 4, 2) := by decide +kernel
theorem kRO_common_d220 : decode prog_12_method_8_code 220 = .ok (.iload 5, 2) := by decide +kernel
theorem kRO_common_d222 : decode prog_12_method_8_code 222 = .ok (.invokevirtual 109, 3) := by decide +kernel
theorem kRO_common_d225 : decode prog_12_method_8_code 225 = .ok (.istore 10, 2) := by decide +kernel
theorem kRO_common_d227 : decode prog_12_method_8_code 227 = .ok (.aload_n 0, 1) := by decide +kernel
theorem kRO_common_d228 : decode prog_12_method_8_code 228 = .ok (.getfield 28, 3) := by decide +kernel
theorem kRO_common_d231 : decode prog_12_method_8_code 231 = .ok (.getfield 112, 3) := by decide +kernel
theorem kRO_common_d234 : decode prog_12_method_8_code 234 = .ok (.istore 11, 2) := by decide +kernel
theorem kRO_common_d236 : decode prog_12_method_8_code 236 = .ok (.iload 5, 2) := by decide +kernel
theorem kRO_common_d238 : decode prog_12_method_8_code 238 = .ok (.istore 4, 2) := by decide +kernel
theorem kRO_common_d240 : decode prog_12_method_8_code 240 = .ok (.iload 11, 2) := by decide +kernel
theorem kRO_common_d242 : decode prog_12_method_8_code 242 = .ok (.istore 5, 2) := by decide +kernel
theorem kRO_common_d244 : decode prog_12_method_8_code 244 = .ok (.aload_n 0, 1) := by decide +kernel
theorem kRO_common_d245 : decode prog_12_method_8_code 245 = .ok (.getfield 28, 3) := by decide +kernel
theorem kRO_common_d248 : decode prog_12_method_8_code 248 = .ok (.iload 6, 2) := by decide +kernel
theorem kRO_common_d250 : decode prog_12_method_8_code 250 = .ok (.aload_n 0, 1) := by decide +kernel
theorem kRO_common_d251 : decode prog_12_method_8_code 251 = .ok (.getfield 28, 3) := by decide +kernel
theorem kRO_common_d254 : decode prog_12_method_8_code 254 = .ok (.iload 10, 2) := by decide +kernel
theorem kRO_common_d256 : decode prog_12_method_8_code 256 = .ok (.iload 7, 2) := by decide +kernel
theorem kRO_common_d258 : decode prog_12_method_8_code 258 = .ok (.invokevirtual 115, 3) := by decide +kernel
theorem kRO_common_d261 : decode prog_12_method_8_code 261 = .ok (.invokevirtual 118, 3) := by decide +kernel
theorem kRO_common_d264 : decode prog_12_method_8_code 264 = .ok (.istore 12, 2) := by decide +kernel
theorem kRO_common_d266 : decode prog_12_method_8_code 266 = .ok (.iload 7, 2) := by decide +kernel
theorem kRO_common_d268 : decode prog_12_method_8_code 268 = .ok (.istore 6, 2) := by decide +kernel
theorem kRO_common_d270 : decode prog_12_method_8_code 270 = .ok (.iload 12, 2) := by decide +kernel
theorem kRO_common_d272 : decode prog_12_method_8_code 272 = .ok (.istore 7, 2) := by decide +kernel
theorem kRO_common_d274 : decode prog_12_method_8_code 274 = .ok (.aload_n 0, 1) := by decide +kernel
theorem kRO_common_d275 : decode prog_12_method_8_code 275 = .ok (.getfield 28, 3) := by decide +kernel
theorem kRO_common_d278 : decode prog_12_method_8_code 278 = .ok (.iload 8, 2) := by decide +kernel
theorem kRO_common_d280 : decode prog_12_method_8_code 280 = .ok (.aload_n 0, 1) := by decide +kernel
theorem kRO_common_d281 : decode prog_12_method_8_code 281 = .ok (.getfield 28, 3) := by decide +kernel
theorem kRO_common_d284 : decode prog_12_method_8_code 284 = .ok (.iload 10, 2) := by decide +kernel
theorem kRO_common_d286 : decode prog_12_method_8_code 286 = .ok (.iload 9, 2) := by decide +kernel
theorem kRO_common_d288 : decode prog_12_method_8_code 288 = .ok (.invokevirtual 115, 3) := by decide +kernel
theorem kRO_common_d291 : decode prog_12_method_8_code 291 = .ok (.invokevirtual 118, 3) := by decide +kernel
theorem kRO_common_d294 : decode prog_12_method_8_code 294 = .ok (.istore 12, 2) := by decide +kernel
theorem kRO_common_d296 : decode prog_12_method_8_code 296 = .ok (.iload 9, 2) := by decide +kernel
theorem kRO_common_d298 : decode prog_12_method_8_code 298 = .ok (.istore 8, 2) := by decide +kernel
theorem kRO_common_d300 : decode prog_12_method_8_code 300 = .ok (.iload 12, 2) := by decide +kernel
theorem kRO_common_d302 : decode prog_12_method_8_code 302 = .ok (.istore 9, 2) := by decide +kernel
theorem kRO_common_d304 : decode prog_12_method_8_code 304 = .ok (.goto (-278), 3) := by decide +kernel
theorem kRO_common_d307 : decode prog_12_method_8_code 307 = .ok (.aload_n 0, 1) := by decide +kernel
theorem kRO_common_d308 : decode prog_12_method_8_code 308 = .ok (.iload 6, 2) := by decide +kernel
theorem kRO_common_d310 : decode prog_12_method_8_code 310 = .ok (.putfield 121, 3) := by decide +kernel
theorem kRO_common_d313 : decode prog_12_method_8_code 313 = .ok (.aload_n 0, 1) := by decide +kernel
theorem kRO_common_d314 : decode prog_12_method_8_code 314 = .ok (.iload 8, 2) := by decide +kernel
theorem kRO_common_d316 : decode prog_12_method_8_code 316 = .ok (.putfield 124, 3) := by decide +kernel
theorem kRO_common_d319 : decode prog_12_method_8_code 319 = .ok (.iload 4, 2) := by decide +kernel
theorem kRO_common_d321 : decode prog_12_method_8_code 321 = .ok (.ireturn, 1) := by decide +kernel
theorem kRO_modulo_d0 : decode prog_12_method_10_code 0 = .ok (.aload_n 0, 1) := by decide +kernel
theorem kRO_modulo_d1 : decode prog_12_method_10_code 1 = .ok (.getfield 28, 3) := by decide +kernel
theorem kRO_modulo_d4 : decode prog_12_method_10_code 4 = .ok (.iload_n 1, 1) := by decide +kernel
theorem kRO_modulo_d5 : decode prog_12_method_10_code 5 = .ok (.iload_n 2, 1) := by decide +kernel
theorem kRO_modulo_d6 : decode prog_12_method_10_code 6 = .ok (.invokevirtual 109, 3) := by decide +kernel
theorem kRO_modulo_d9 : decode prog_12_method_10_code 9 = .ok (.pop, 1) := by decide +kernel
theorem kRO_modulo_d10 : decode prog_12_method_10_code 10 = .ok (.aload_n 0, 1) := by decide +kernel
theorem kRO_modulo_d11 : decode prog_12_method_10_code 11 = .ok (.getfield 28, 3) := by decide +kernel
theorem kRO_modulo_d14 : decode prog_12_method_10_code 14 = .ok (.getfield 112, 3) := by decide +kernel
theorem kRO_modulo_d17 : decode prog_12_method_10_code 17 = .ok (.ireturn, 1) := by decide +kernel
theorem kRO_isDiagonal_d0 : decode prog_12_method_13_code 0 = .ok (.iconst 1, 1) := by decide +kernel
theorem kRO_isDiagonal_d1 : decode prog_12_method_13_code 1 = .ok (.istore_n 2, 1) := by decide +kernel
theorem kRO_isDiagonal_d2 : decode prog_12_method_13_code 2 = .ok (.iconst 0, 1) := by decide +kernel
theorem kRO_isDiagonal_d3 : decode prog_12_method_13_code 3 = .ok (.istore_n 3, 1) := by decide +kernel
theorem kRO_isDiagonal_d4 : decode prog_12_method_13_code 4 = .ok (.iload_n 3, 1) := by decide +kernel
theorem kRO_isDiagonal_d5 : decode prog_12_method_13_code 5 = .ok (.aload_n 0, 1) := by decide +kernel
theorem kRO_isDiagonal_d6 : decode prog_12_method_13_code 6 = .ok (.getfield 18, 3) := by decide +kernel
theorem kRO_isDiagonal_d9 : decode prog_12_method_13_code 9 = .ok (.iload_n 1, 1) := by decide +kernel
theorem kRO_isDiagonal_d10 : decode prog_12_method_13_code 10 = .ok (.invokevirtual 153, 3) := by decide +kernel
theorem kRO_isDiagonal_d13 : decode prog_12_method_13_code 13 = .ok (.if_icmp .ge 52, 3) := by decide +kernel
theorem kRO_isDiagonal_d16 : decode prog_12_method_13_code 16 = .ok (.iload_n 2, 1) := by decide +kernel
theorem kRO_isDiagonal_d17 : decode prog_12_method_13_code 17 = .ok (.aload_n 0, 1) := by decide +kernel
theorem kRO_isDiagonal_d18 : decode prog_12_method_13_code 18 = .ok (.getfield 18, 3) := by decide +kernel
theorem kRO_isDiagonal_d21 : decode prog_12_method_13_code 21 = .ok (.iload_n 1, 1) := by decide +kernel
theorem kRO_isDiagonal_d22 : decode prog_12_method_13_code 22 = .ok (.iload_n 3, 1) := by decide +kernel
theorem kRO_isDiagonal_d23 : decode prog_12_method_13_code 23 = .ok (.invokevirtual 59, 3) := by decide +kernel
theorem kRO_isDiagonal_d26 : decode prog_12_method_13_code 26 = .ok (.ifCond .eq 26, 3) := by decide +kernel
theorem kRO_isDiagonal_d29 : decode prog_12_method_13_code 29 = .ok (.iload_n 3, 1) := by decide +kernel
theorem kRO_isDiagonal_d30 : decode prog_12_method_13_code 30 = .ok (.aload_n 0, 1) := by decide +kernel
theorem kRO_isDiagonal_d31 : decode prog_12_method_13_code 31 = .ok (.getfield 18, 3) := by decide +kernel
theorem kRO_isDiagonal_d34 : decode prog_12_method_13_code 34 = .ok (.iload_n 1, 1) := by decide +kernel
theorem kRO_isDiagonal_d35 : decode prog_12_method_13_code 35 = .ok (.invokevirtual 39, 3) := by decide +kernel
theorem kRO_isDiagonal_d38 : decode prog_12_method_13_code 38 = .ok (.idiv, 1) := by decide +kernel
theorem kRO_isDiagonal_d39 : decode prog_12_method_13_code 39 = .ok (.iload_n 3, 1) := by decide +kernel
theorem kRO_isDiagonal_d40 : decode prog_12_method_13_code 40 = .ok (.aload_n 0, 1) := by decide +kernel
theorem kRO_isDiagonal_d41 : decode prog_12_method_13_code 41 = .ok (.getfield 18, 3) := by decide +kernel
theorem kRO_isDiagonal_d44 : decode prog_12_method_13_code 44 = .ok (.iload_n 1, 1) := by decide +kernel
theorem kRO_isDiagonal_d45 : decode prog_12_method_13_code 45 = .ok (.invokevirtual 39, 3) := by decide +kernel
theorem kRO_isDiagonal_d48 : decode prog_12_method_13_code 48 = .ok (.irem, 1) := by decide +kernel
theorem kRO_isDiagonal_d49 : decode prog_12_method_13_code 49 = .ok (.if_icmp .ne 7, 3) := by decide +kernel
theorem kRO_isDiagonal_d52 : decode prog_12_method_13_code 52 = .ok (.iconst 1, 1) := by decide +kernel
theorem kRO_isDiagonal_d53 : decode prog_12_method_13_code 53 = .ok (.goto 4, 3) := by decide +kernel
theorem kRO_isDiagonal_d56 : decode prog_12_method_13_code 56 = .ok (.iconst 0, 1) := by decide +kernel
theorem kRO_isDiagonal_d57 : decode prog_12_method_13_code 57 = .ok (.iand, 1) := by decide +kernel
theorem kRO_isDiagonal_d58 : decode prog_12_method_13_code 58 = .ok (.istore_n 2, 1) := by decide +kernel
theorem kRO_isDiagonal_d59 : decode prog_12_method_13_code 59 = .ok (.iinc 3 1, 3) := by decide +kernel
theorem kRO_isDiagonal_d62 : decode prog_12_method_13_code 62 = .ok (.goto (-58), 3) := by decide +kernel
theorem kRO_isDiagonal_d65 : decode prog_12_method_13_code 65 = .ok (.iload_n 2, 1) := by decide +kernel
theorem kRO_isDiagonal_d66 : decode prog_12_method_13_code 66 = .ok (.ireturn, 1) := by decide +kernel
