/-! decode rows of the law, 16 -/
theorem dL_law_3132 : decode cL_law 3132 = .ok (.aload_n 2, 1) := by decide +kernel
theorem dL_law_3133 : decode cL_law 3133 = .ok (.invokevirtual 371, 3) := by decide +kernel
theorem dL_law_3136 : decode cL_law 3136 = .ok (.istore 6, 2) := by decide +kernel
theorem dL_law_3138 : decode cL_law 3138 = .ok (.aload_n 2, 1) := by decide +kernel
theorem dL_law_3139 : decode cL_law 3139 = .ok (.invokevirtual 159, 3) := by decide +kernel
theorem dL_law_3142 : decode cL_law 3142 = .ok (.iload 5, 2) := by decide +kernel
theorem dL_law_3144 : decode cL_law 3144 = .ok (.if_icmp .eq 5, 3) := by decide +kernel
theorem dL_law_3149 : decode cL_law 3149 = .ok (.iload 5, 2) := by decide +kernel
theorem dL_law_3151 : decode cL_law 3151 = .ok (.ifCond .ne 15, 3) := by decide +kernel
theorem dL_law_3154 : decode cL_law 3154 = .ok (.aload_n 3, 1) := by decide +kernel
theorem dL_law_3155 : decode cL_law 3155 = .ok (.iconst 0, 1) := by decide +kernel
theorem dL_law_3156 : decode cL_law 3156 = .ok (.laload, 1) := by decide +kernel
theorem dL_law_3157 : decode cL_law 3157 = .ok (.iload 6, 2) := by decide +kernel
theorem dL_law_3159 : decode cL_law 3159 = .ok (.i2l, 1) := by decide +kernel
theorem dL_law_3160 : decode cL_law 3160 = .ok (.lcmp, 1) := by decide +kernel
theorem dL_law_3161 : decode cL_law 3161 = .ok (.ifCond .eq 5, 3) := by decide +kernel
theorem dL_law_3166 : decode cL_law 3166 = .ok (.goto 72, 3) := by decide +kernel
theorem dL_law_3169 : decode cL_law 3169 = .ok (.aload_n 1, 1) := by decide +kernel
theorem dL_law_3170 : decode cL_law 3170 = .ok (.invokevirtual 372, 3) := by decide +kernel
theorem dL_law_3173 : decode cL_law 3173 = .ok (.aload_n 2, 1) := by decide +kernel
theorem dL_law_3174 : decode cL_law 3174 = .ok (.invokevirtual 375, 3) := by decide +kernel
theorem dL_law_3177 : decode cL_law 3177 = .ok (.if_icmp .eq 61, 3) := by decide +kernel
theorem dL_law_3182 : decode cL_law 3182 = .ok (.aload_n 1, 1) := by decide +kernel
theorem dL_law_3183 : decode cL_law 3183 = .ok (.aload_n 0, 1) := by decide +kernel
theorem dL_law_3184 : decode cL_law 3184 = .ok (.iload 4, 2) := by decide +kernel
theorem dL_law_3186 : decode cL_law 3186 = .ok (.iconst 1, 1) := by decide +kernel
theorem dL_law_3187 : decode cL_law 3187 = .ok (.iadd, 1) := by decide +kernel
theorem dL_law_3188 : decode cL_law 3188 = .ok (.iaload, 1) := by decide +kernel
theorem dL_law_3189 : decode cL_law 3189 = .ok (.aload_n 3, 1) := by decide +kernel
theorem dL_law_3190 : decode cL_law 3190 = .ok (.invokestatic 376, 3) := by decide +kernel
theorem dL_law_3193 : decode cL_law 3193 = .ok (.istore 5, 2) := by decide +kernel
theorem dL_law_3195 : decode cL_law 3195 = .ok (.aload_n 2, 1) := by decide +kernel
theorem dL_law_3196 : decode cL_law 3196 = .ok (.aload_n 0, 1) := by decide +kernel
theorem dL_law_3197 : decode cL_law 3197 = .ok (.iload 4, 2) := by decide +kernel
theorem dL_law_3199 : decode cL_law 3199 = .ok (.iconst 1, 1) := by decide +kernel
theorem dL_law_3200 : decode cL_law 3200 = .ok (.iadd, 1) := by decide +kernel
theorem dL_law_3201 : decode cL_law 3201 = .ok (.iaload, 1) := by decide +kernel
theorem dL_law_3202 : decode cL_law 3202 = .ok (.invokevirtual 378, 3) := by decide +kernel
theorem dL_law_3205 : decode cL_law 3205 = .ok (.istore 6, 2) := by decide +kernel
theorem dL_law_3207 : decode cL_law 3207 = .ok (.aload_n 2, 1) := by decide +kernel
theorem dL_law_3208 : decode cL_law 3208 = .ok (.invokevirtual 159, 3) := by decide +kernel
theorem dL_law_3211 : decode cL_law 3211 = .ok (.iload 5, 2) := by decide +kernel
theorem dL_law_3213 : decode cL_law 3213 = .ok (.if_icmp .eq 5, 3) := by decide +kernel
theorem dL_law_3218 : decode cL_law 3218 = .ok (.iload 5, 2) := by decide +kernel
theorem dL_law_3220 : decode cL_law 3220 = .ok (.ifCond .ne 15, 3) := by decide +kernel
theorem dL_law_3223 : decode cL_law 3223 = .ok (.aload_n 3, 1) := by decide +kernel
theorem dL_law_3224 : decode cL_law 3224 = .ok (.iconst 0, 1) := by decide +kernel
theorem dL_law_3225 : decode cL_law 3225 = .ok (.laload, 1) := by decide +kernel
theorem dL_law_3226 : decode cL_law 3226 = .ok (.iload 6, 2) := by decide +kernel
theorem dL_law_3228 : decode cL_law 3228 = .ok (.i2l, 1) := by decide +kernel
theorem dL_law_3229 : decode cL_law 3229 = .ok (.lcmp, 1) := by decide +kernel
theorem dL_law_3230 : decode cL_law 3230 = .ok (.ifCond .eq 5, 3) := by decide +kernel
theorem dL_law_3235 : decode cL_law 3235 = .ok (.goto 3, 3) := by decide +kernel
theorem dL_law_3238 : decode cL_law 3238 = .ok (.iinc 4 6, 3) := by decide +kernel
theorem dL_law_3241 : decode cL_law 3241 = .ok (.goto (-3218), 3) := by decide +kernel
theorem dL_law_3244 : decode cL_law 3244 = .ok (.iconst 1, 1) := by decide +kernel
theorem dL_law_3245 : decode cL_law 3245 = .ok (.ireturn, 1) := by decide +kernel
