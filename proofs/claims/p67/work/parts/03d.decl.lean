theorem dL_holds_880 : decode cL_holds 880 = .ok (.invokestatic 341, 3) := by decide +kernel
theorem dL_holds_883 : decode cL_holds 883 = .ok (.ifCond .eq 7, 3) := by decide +kernel
theorem dL_holds_886 : decode cL_holds 886 = .ok (.iconst 1, 1) := by decide +kernel
theorem dL_holds_887 : decode cL_holds 887 = .ok (.goto 4, 3) := by decide +kernel
theorem dL_holds_890 : decode cL_holds 890 = .ok (.iconst 0, 1) := by decide +kernel
theorem dL_holds_891 : decode cL_holds 891 = .ok (.ireturn, 1) := by decide +kernel
theorem dL_tank_0 : decode cL_tank 0 = .ok (.iconst 0, 1) := by decide +kernel
theorem dL_tank_1 : decode cL_tank 1 = .ok (.istore 4, 2) := by decide +kernel
theorem dL_tank_3 : decode cL_tank 3 = .ok (.iload 4, 2) := by decide +kernel
theorem dL_tank_5 : decode cL_tank 5 = .ok (.iconst 2, 1) := by decide +kernel
theorem dL_tank_6 : decode cL_tank 6 = .ok (.if_icmp .ge 66, 3) := by decide +kernel
theorem dL_tank_9 : decode cL_tank 9 = .ok (.iconst 0, 1) := by decide +kernel
theorem dL_tank_10 : decode cL_tank 10 = .ok (.istore 5, 2) := by decide +kernel
theorem dL_tank_12 : decode cL_tank 12 = .ok (.iload 5, 2) := by decide +kernel
theorem dL_tank_14 : decode cL_tank 14 = .ok (.aload_n 1, 1) := by decide +kernel
theorem dL_tank_15 : decode cL_tank 15 = .ok (.invokestatic 118, 3) := by decide +kernel
theorem dL_tank_18 : decode cL_tank 18 = .ok (.if_icmp .ge 48, 3) := by decide +kernel
theorem dL_tank_21 : decode cL_tank 21 = .ok (.aload_n 0, 1) := by decide +kernel
theorem dL_tank_22 : decode cL_tank 22 = .ok (.iload 5, 2) := by decide +kernel
theorem dL_tank_24 : decode cL_tank 24 = .ok (.invokevirtual 172, 3) := by decide +kernel
theorem dL_tank_27 : decode cL_tank 27 = .ok (.iload 4, 2) := by decide +kernel
theorem dL_tank_29 : decode cL_tank 29 = .ok (.ifCond .ne 7, 3) := by decide +kernel
theorem dL_tank_32 : decode cL_tank 32 = .ok (.iload_n 2, 1) := by decide +kernel
theorem dL_tank_33 : decode cL_tank 33 = .ok (.goto 4, 3) := by decide +kernel
theorem dL_tank_36 : decode cL_tank 36 = .ok (.iconst (-1), 1) := by decide +kernel
theorem dL_tank_37 : decode cL_tank 37 = .ok (.if_icmp .ne 23, 3) := by decide +kernel
theorem dL_tank_40 : decode cL_tank 40 = .ok (.aload_n 1, 1) := by decide +kernel
theorem dL_tank_41 : decode cL_tank 41 = .ok (.iload 5, 2) := by decide +kernel
theorem dL_tank_43 : decode cL_tank 43 = .ok (.invokestatic 123, 3) := by decide +kernel
theorem dL_tank_46 : decode cL_tank 46 = .ok (.aload_n 0, 1) := by decide +kernel
theorem dL_tank_47 : decode cL_tank 47 = .ok (.iload 5, 2) := by decide +kernel
theorem dL_tank_49 : decode cL_tank 49 = .ok (.invokevirtual 169, 3) := by decide +kernel
theorem dL_tank_52 : decode cL_tank 52 = .ok (.isub, 1) := by decide +kernel
theorem dL_tank_53 : decode cL_tank 53 = .ok (.iload_n 3, 1) := by decide +kernel
theorem dL_tank_54 : decode cL_tank 54 = .ok (.if_icmp .lt 6, 3) := by decide +kernel
theorem dL_tank_57 : decode cL_tank 57 = .ok (.iload 5, 2) := by decide +kernel
theorem dL_tank_59 : decode cL_tank 59 = .ok (.ireturn, 1) := by decide +kernel
theorem dL_tank_60 : decode cL_tank 60 = .ok (.iinc 5 1, 3) := by decide +kernel
theorem dL_tank_63 : decode cL_tank 63 = .ok (.goto (-51), 3) := by decide +kernel
theorem dL_tank_66 : decode cL_tank 66 = .ok (.iinc 4 1, 3) := by decide +kernel
theorem dL_tank_69 : decode cL_tank 69 = .ok (.goto (-66), 3) := by decide +kernel
theorem dL_tank_72 : decode cL_tank 72 = .ok (.iconst (-1), 1) := by decide +kernel
theorem dL_tank_73 : decode cL_tank 73 = .ok (.ireturn, 1) := by decide +kernel
theorem dL_cellar_0 : decode cL_cellar 0 = .ok (.iconst 0, 1) := by decide +kernel
theorem dL_cellar_1 : decode cL_cellar 1 = .ok (.istore_n 2, 1) := by decide +kernel
theorem dL_cellar_2 : decode cL_cellar 2 = .ok (.iconst 0, 1) := by decide +kernel
theorem dL_cellar_3 : decode cL_cellar 3 = .ok (.istore_n 3, 1) := by decide +kernel
theorem dL_cellar_4 : decode cL_cellar 4 = .ok (.iconst 4, 1) := by decide +kernel
theorem dL_cellar_5 : decode cL_cellar 5 = .ok (.newarray .int, 2) := by decide +kernel
theorem dL_cellar_7 : decode cL_cellar 7 = .ok (.astore 4, 2) := by decide +kernel
theorem dL_cellar_9 : decode cL_cellar 9 = .ok (.iconst 0, 1) := by decide +kernel
theorem dL_cellar_10 : decode cL_cellar 10 = .ok (.istore 5, 2) := by decide +kernel
theorem dL_cellar_12 : decode cL_cellar 12 = .ok (.iload 5, 2) := by decide +kernel
theorem dL_cellar_14 : decode cL_cellar 14 = .ok (.aload_n 1, 1) := by decide +kernel
theorem dL_cellar_15 : decode cL_cellar 15 = .ok (.invokestatic 118, 3) := by decide +kernel
theorem dL_cellar_18 : decode cL_cellar 18 = .ok (.if_icmp .ge 121, 3) := by decide +kernel
theorem dL_cellar_21 : decode cL_cellar 21 = .ok (.iload_n 2, 1) := by decide +kernel
theorem dL_cellar_22 : decode cL_cellar 22 = .ok (.aload_n 0, 1) := by decide +kernel
theorem dL_cellar_23 : decode cL_cellar 23 = .ok (.iload 5, 2) := by decide +kernel
theorem dL_cellar_25 : decode cL_cellar 25 = .ok (.invokevirtual 169, 3) := by decide +kernel
theorem dL_cellar_28 : decode cL_cellar 28 = .ok (.iadd, 1) := by decide +kernel
theorem dL_cellar_29 : decode cL_cellar 29 = .ok (.istore_n 2, 1) := by decide +kernel
theorem dL_cellar_30 : decode cL_cellar 30 = .ok (.iload_n 3, 1) := by decide +kernel
theorem dL_cellar_31 : decode cL_cellar 31 = .ok (.aload_n 1, 1) := by decide +kernel
theorem dL_cellar_32 : decode cL_cellar 32 = .ok (.iload 5, 2) := by decide +kernel
theorem dL_cellar_34 : decode cL_cellar 34 = .ok (.invokestatic 123, 3) := by decide +kernel
theorem dL_cellar_37 : decode cL_cellar 37 = .ok (.iadd, 1) := by decide +kernel
theorem dL_cellar_38 : decode cL_cellar 38 = .ok (.istore_n 3, 1) := by decide +kernel
theorem dL_cellar_39 : decode cL_cellar 39 = .ok (.aload_n 0, 1) := by decide +kernel
theorem dL_cellar_40 : decode cL_cellar 40 = .ok (.iload 5, 2) := by decide +kernel
theorem dL_cellar_42 : decode cL_cellar 42 = .ok (.invokevirtual 169, 3) := by decide +kernel
theorem dL_cellar_45 : decode cL_cellar 45 = .ok (.aload_n 1, 1) := by decide +kernel
theorem dL_cellar_46 : decode cL_cellar 46 = .ok (.iload 5, 2) := by decide +kernel
theorem dL_cellar_48 : decode cL_cellar 48 = .ok (.invokestatic 123, 3) := by decide +kernel
theorem dL_cellar_51 : decode cL_cellar 51 = .ok (.if_icmp .gt 53, 3) := by decide +kernel
theorem dL_cellar_54 : decode cL_cellar 54 = .ok (.aload_n 0, 1) := by decide +kernel
theorem dL_cellar_55 : decode cL_cellar 55 = .ok (.iload 5, 2) := by decide +kernel
theorem dL_cellar_57 : decode cL_cellar 57 = .ok (.invokevirtual 169, 3) := by decide +kernel
theorem dL_cellar_60 : decode cL_cellar 60 = .ok (.ifCond .ne 7, 3) := by decide +kernel
theorem dL_cellar_63 : decode cL_cellar 63 = .ok (.iconst 1, 1) := by decide +kernel
theorem dL_cellar_64 : decode cL_cellar 64 = .ok (.goto 4, 3) := by decide +kernel
theorem dL_cellar_67 : decode cL_cellar 67 = .ok (.iconst 0, 1) := by decide +kernel
theorem dL_cellar_68 : decode cL_cellar 68 = .ok (.aload_n 0, 1) := by decide +kernel
theorem dL_cellar_69 : decode cL_cellar 69 = .ok (.iload 5, 2) := by decide +kernel
theorem dL_cellar_71 : decode cL_cellar 71 = .ok (.invokevirtual 172, 3) := by decide +kernel
theorem dL_cellar_74 : decode cL_cellar 74 = .ok (.iconst (-1), 1) := by decide +kernel
theorem dL_cellar_75 : decode cL_cellar 75 = .ok (.if_icmp .ne 7, 3) := by decide +kernel
theorem dL_cellar_78 : decode cL_cellar 78 = .ok (.iconst 1, 1) := by decide +kernel
theorem dL_cellar_79 : decode cL_cellar 79 = .ok (.goto 4, 3) := by decide +kernel
theorem dL_cellar_82 : decode cL_cellar 82 = .ok (.iconst 0, 1) := by decide +kernel
theorem dL_cellar_83 : decode cL_cellar 83 = .ok (.if_icmp .ne 21, 3) := by decide +kernel
theorem dL_cellar_86 : decode cL_cellar 86 = .ok (.aload_n 0, 1) := by decide +kernel
theorem dL_cellar_87 : decode cL_cellar 87 = .ok (.iload 5, 2) := by decide +kernel
theorem dL_cellar_89 : decode cL_cellar 89 = .ok (.invokevirtual 169, 3) := by decide +kernel
theorem dL_cellar_92 : decode cL_cellar 92 = .ok (.ifCond .ne 14, 3) := by decide +kernel
theorem dL_cellar_95 : decode cL_cellar 95 = .ok (.aload_n 0, 1) := by decide +kernel
theorem dL_cellar_96 : decode cL_cellar 96 = .ok (.iload 5, 2) := by decide +kernel
theorem dL_cellar_98 : decode cL_cellar 98 = .ok (.invokevirtual 175, 3) := by decide +kernel
theorem dL_cellar_101 : decode cL_cellar 101 = .ok (.ifCond .eq 5, 3) := by decide +kernel
theorem dL_cellar_104 : decode cL_cellar 104 = .ok (.iconst 0, 1) := by decide +kernel
theorem dL_cellar_105 : decode cL_cellar 105 = .ok (.ireturn, 1) := by decide +kernel
theorem dL_cellar_106 : decode cL_cellar 106 = .ok (.aload_n 0, 1) := by decide +kernel
theorem dL_cellar_107 : decode cL_cellar 107 = .ok (.iload 5, 2) := by decide +kernel
theorem dL_cellar_109 : decode cL_cellar 109 = .ok (.invokevirtual 169, 3) := by decide +kernel
theorem dL_cellar_112 : decode cL_cellar 112 = .ok (.ifCond .le 21, 3) := by decide +kernel
theorem dL_cellar_115 : decode cL_cellar 115 = .ok (.aload 4, 2) := by decide +kernel
theorem dL_cellar_117 : decode cL_cellar 117 = .ok (.aload_n 0, 1) := by decide +kernel
theorem dL_cellar_118 : decode cL_cellar 118 = .ok (.iload 5, 2) := by decide +kernel
theorem dL_cellar_120 : decode cL_cellar 120 = .ok (.invokevirtual 172, 3) := by decide +kernel
theorem dL_cellar_123 : decode cL_cellar 123 = .ok (.dup2, 1) := by decide +kernel
theorem dL_cellar_124 : decode cL_cellar 124 = .ok (.iaload, 1) := by decide +kernel
theorem dL_cellar_125 : decode cL_cellar 125 = .ok (.aload_n 0, 1) := by decide +kernel
theorem dL_cellar_126 : decode cL_cellar 126 = .ok (.iload 5, 2) := by decide +kernel
theorem dL_cellar_128 : decode cL_cellar 128 = .ok (.invokevirtual 169, 3) := by decide +kernel
theorem dL_cellar_131 : decode cL_cellar 131 = .ok (.iadd, 1) := by decide +kernel
theorem dL_cellar_132 : decode cL_cellar 132 = .ok (.iastore, 1) := by decide +kernel
theorem dL_cellar_133 : decode cL_cellar 133 = .ok (.iinc 5 1, 3) := by decide +kernel
theorem dL_cellar_136 : decode cL_cellar 136 = .ok (.goto (-124), 3) := by decide +kernel
theorem dL_cellar_139 : decode cL_cellar 139 = .ok (.aload_n 0, 1) := by decide +kernel
theorem dL_cellar_140 : decode cL_cellar 140 = .ok (.invokevirtual 345, 3) := by decide +kernel
theorem dL_cellar_143 : decode cL_cellar 143 = .ok (.iload_n 3, 1) := by decide +kernel
theorem dL_cellar_144 : decode cL_cellar 144 = .ok (.ifCond .ne 7, 3) := by decide +kernel
theorem dL_cellar_147 : decode cL_cellar 147 = .ok (.fconst 0, 1) := by decide +kernel
theorem dL_cellar_148 : decode cL_cellar 148 = .ok (.goto 8, 3) := by decide +kernel
theorem dL_cellar_151 : decode cL_cellar 151 = .ok (.iload_n 2, 1) := by decide +kernel
theorem dL_cellar_152 : decode cL_cellar 152 = .ok (.i2f, 1) := by decide +kernel
theorem dL_cellar_153 : decode cL_cellar 153 = .ok (.iload_n 3, 1) := by decide +kernel
theorem dL_cellar_154 : decode cL_cellar 154 = .ok (.i2f, 1) := by decide +kernel
theorem dL_cellar_155 : decode cL_cellar 155 = .ok (.fdiv, 1) := by decide +kernel
theorem dL_cellar_156 : decode cL_cellar 156 = .ok (.fcmp .l, 1) := by decide +kernel
theorem dL_cellar_157 : decode cL_cellar 157 = .ok (.ifCond .eq 5, 3) := by decide +kernel
theorem dL_cellar_160 : decode cL_cellar 160 = .ok (.iconst 0, 1) := by decide +kernel
theorem dL_cellar_161 : decode cL_cellar 161 = .ok (.ireturn, 1) := by decide +kernel
theorem dL_cellar_162 : decode cL_cellar 162 = .ok (.iconst (-1), 1) := by decide +kernel
theorem dL_cellar_163 : decode cL_cellar 163 = .ok (.istore 5, 2) := by decide +kernel
theorem dL_cellar_165 : decode cL_cellar 165 = .ok (.iconst 0, 1) := by decide +kernel
theorem dL_cellar_166 : decode cL_cellar 166 = .ok (.istore 6, 2) := by decide +kernel
theorem dL_cellar_168 : decode cL_cellar 168 = .ok (.iload 6, 2) := by decide +kernel
theorem dL_cellar_170 : decode cL_cellar 170 = .ok (.aload_n 0, 1) := by decide +kernel
theorem dL_cellar_171 : decode cL_cellar 171 = .ok (.invokevirtual 154, 3) := by decide +kernel
theorem dL_cellar_174 : decode cL_cellar 174 = .ok (.if_icmp .ge 61, 3) := by decide +kernel
theorem dL_cellar_177 : decode cL_cellar 177 = .ok (.aload 4, 2) := by decide +kernel
theorem dL_cellar_179 : decode cL_cellar 179 = .ok (.aload_n 0, 1) := by decide +kernel
theorem dL_cellar_180 : decode cL_cellar 180 = .ok (.iload 6, 2) := by decide +kernel
theorem dL_cellar_182 : decode cL_cellar 182 = .ok (.invokevirtual 349, 3) := by decide +kernel
theorem dL_cellar_185 : decode cL_cellar 185 = .ok (.dup2, 1) := by decide +kernel
theorem dL_cellar_186 : decode cL_cellar 186 = .ok (.iaload, 1) := by decide +kernel
theorem dL_cellar_187 : decode cL_cellar 187 = .ok (.aload_n 0, 1) := by decide +kernel
theorem dL_cellar_188 : decode cL_cellar 188 = .ok (.iload 6, 2) := by decide +kernel
theorem dL_cellar_190 : decode cL_cellar 190 = .ok (.invokevirtual 213, 3) := by decide +kernel
theorem dL_cellar_193 : decode cL_cellar 193 = .ok (.iadd, 1) := by decide +kernel
theorem dL_cellar_194 : decode cL_cellar 194 = .ok (.iastore, 1) := by decide +kernel
theorem dL_cellar_195 : decode cL_cellar 195 = .ok (.aload_n 0, 1) := by decide +kernel
theorem dL_cellar_196 : decode cL_cellar 196 = .ok (.iload 6, 2) := by decide +kernel
theorem dL_cellar_198 : decode cL_cellar 198 = .ok (.invokevirtual 213, 3) := by decide +kernel
theorem dL_cellar_201 : decode cL_cellar 201 = .ok (.ifCond .le 28, 3) := by decide +kernel
theorem dL_cellar_204 : decode cL_cellar 204 = .ok (.iload 5, 2) := by decide +kernel
theorem dL_cellar_206 : decode cL_cellar 206 = .ok (.iconst (-1), 1) := by decide +kernel
theorem dL_cellar_207 : decode cL_cellar 207 = .ok (.if_icmp .eq 18, 3) := by decide +kernel
theorem dL_cellar_210 : decode cL_cellar 210 = .ok (.aload_n 0, 1) := by decide +kernel
theorem dL_cellar_211 : decode cL_cellar 211 = .ok (.iload 6, 2) := by decide +kernel
theorem dL_cellar_213 : decode cL_cellar 213 = .ok (.invokevirtual 216, 3) := by decide +kernel
theorem dL_cellar_216 : decode cL_cellar 216 = .ok (.aload_n 0, 1) := by decide +kernel
theorem dL_cellar_217 : decode cL_cellar 217 = .ok (.iload 5, 2) := by decide +kernel
theorem dL_cellar_219 : decode cL_cellar 219 = .ok (.invokevirtual 216, 3) := by decide +kernel
theorem dL_cellar_222 : decode cL_cellar 222 = .ok (.if_icmp .le 7, 3) := by decide +kernel
theorem dL_cellar_225 : decode cL_cellar 225 = .ok (.iload 6, 2) := by decide +kernel
theorem dL_cellar_227 : decode cL_cellar 227 = .ok (.istore 5, 2) := by decide +kernel
theorem dL_cellar_229 : decode cL_cellar 229 = .ok (.iinc 6 1, 3) := by decide +kernel
theorem dL_cellar_232 : decode cL_cellar 232 = .ok (.goto (-64), 3) := by decide +kernel
theorem dL_cellar_235 : decode cL_cellar 235 = .ok (.aload_n 0, 1) := by decide +kernel
theorem dL_cellar_236 : decode cL_cellar 236 = .ok (.invokevirtual 352, 3) := by decide +kernel
theorem dL_cellar_239 : decode cL_cellar 239 = .ok (.iload 5, 2) := by decide +kernel
theorem dL_cellar_241 : decode cL_cellar 241 = .ok (.if_icmp .eq 5, 3) := by decide +kernel
theorem dL_cellar_244 : decode cL_cellar 244 = .ok (.iconst 0, 1) := by decide +kernel
theorem dL_cellar_245 : decode cL_cellar 245 = .ok (.ireturn, 1) := by decide +kernel
theorem dL_cellar_246 : decode cL_cellar 246 = .ok (.iconst 0, 1) := by decide +kernel
theorem dL_cellar_247 : decode cL_cellar 247 = .ok (.istore 6, 2) := by decide +kernel
theorem dL_cellar_249 : decode cL_cellar 249 = .ok (.iload 6, 2) := by decide +kernel
theorem dL_cellar_251 : decode cL_cellar 251 = .ok (.aload_n 0, 1) := by decide +kernel
theorem dL_cellar_252 : decode cL_cellar 252 = .ok (.invokevirtual 139, 3) := by decide +kernel
theorem dL_cellar_255 : decode cL_cellar 255 = .ok (.if_icmp .ge 116, 3) := by decide +kernel
theorem dL_cellar_258 : decode cL_cellar 258 = .ok (.aload_n 0, 1) := by decide +kernel
theorem dL_cellar_259 : decode cL_cellar 259 = .ok (.iload 6, 2) := by decide +kernel
theorem dL_cellar_261 : decode cL_cellar 261 = .ok (.invokevirtual 355, 3) := by decide +kernel
theorem dL_cellar_264 : decode cL_cellar 264 = .ok (.istore 7, 2) := by decide +kernel
theorem dL_cellar_266 : decode cL_cellar 266 = .ok (.aload_n 0, 1) := by decide +kernel
theorem dL_cellar_267 : decode cL_cellar 267 = .ok (.iload 6, 2) := by decide +kernel
theorem dL_cellar_269 : decode cL_cellar 269 = .ok (.invokevirtual 358, 3) := by decide +kernel
theorem dL_cellar_272 : decode cL_cellar 272 = .ok (.aload 4, 2) := by decide +kernel
theorem dL_cellar_274 : decode cL_cellar 274 = .ok (.iload 6, 2) := by decide +kernel
theorem dL_cellar_276 : decode cL_cellar 276 = .ok (.iaload, 1) := by decide +kernel
theorem dL_cellar_277 : decode cL_cellar 277 = .ok (.if_icmp .ne 44, 3) := by decide +kernel
theorem dL_cellar_280 : decode cL_cellar 280 = .ok (.iload 7, 2) := by decide +kernel
theorem dL_cellar_282 : decode cL_cellar 282 = .ok (.ifCond .le 16, 3) := by decide +kernel
theorem dL_cellar_285 : decode cL_cellar 285 = .ok (.aload_n 0, 1) := by decide +kernel
theorem dL_cellar_286 : decode cL_cellar 286 = .ok (.aload_n 1, 1) := by decide +kernel
theorem dL_cellar_287 : decode cL_cellar 287 = .ok (.iload 6, 2) := by decide +kernel
theorem dL_cellar_289 : decode cL_cellar 289 = .ok (.iload 7, 2) := by decide +kernel
theorem dL_cellar_291 : decode cL_cellar 291 = .ok (.invokestatic 361, 3) := by decide +kernel
theorem dL_cellar_294 : decode cL_cellar 294 = .ok (.iconst (-1), 1) := by decide +kernel
theorem dL_cellar_295 : decode cL_cellar 295 = .ok (.if_icmp .eq 26, 3) := by decide +kernel
theorem dL_cellar_298 : decode cL_cellar 298 = .ok (.iload 7, 2) := by decide +kernel
theorem dL_cellar_300 : decode cL_cellar 300 = .ok (.sipush 5000, 3) := by decide +kernel
theorem dL_cellar_303 : decode cL_cellar 303 = .ok (.if_icmp .ge 20, 3) := by decide +kernel
theorem dL_cellar_306 : decode cL_cellar 306 = .ok (.aload_n 0, 1) := by decide +kernel
theorem dL_cellar_307 : decode cL_cellar 307 = .ok (.aload_n 1, 1) := by decide +kernel
theorem dL_cellar_308 : decode cL_cellar 308 = .ok (.iload 6, 2) := by decide +kernel
theorem dL_cellar_310 : decode cL_cellar 310 = .ok (.iload 7, 2) := by decide +kernel
theorem dL_cellar_312 : decode cL_cellar 312 = .ok (.iconst 1, 1) := by decide +kernel
theorem dL_cellar_313 : decode cL_cellar 313 = .ok (.iadd, 1) := by decide +kernel
theorem dL_cellar_314 : decode cL_cellar 314 = .ok (.invokestatic 361, 3) := by decide +kernel
theorem dL_cellar_317 : decode cL_cellar 317 = .ok (.iconst (-1), 1) := by decide +kernel
theorem dL_cellar_318 : decode cL_cellar 318 = .ok (.if_icmp .eq 5, 3) := by decide +kernel
theorem dL_cellar_321 : decode cL_cellar 321 = .ok (.iconst 0, 1) := by decide +kernel
theorem dL_cellar_322 : decode cL_cellar 322 = .ok (.ireturn, 1) := by decide +kernel
theorem dL_cellar_323 : decode cL_cellar 323 = .ok (.iconst 1, 1) := by decide +kernel
theorem dL_cellar_324 : decode cL_cellar 324 = .ok (.istore 8, 2) := by decide +kernel
theorem dL_cellar_326 : decode cL_cellar 326 = .ok (.iload 8, 2) := by decide +kernel
theorem dL_cellar_328 : decode cL_cellar 328 = .ok (.sipush 3000, 3) := by decide +kernel
theorem dL_cellar_331 : decode cL_cellar 331 = .ok (.if_icmp .ge 34, 3) := by decide +kernel
theorem dL_cellar_334 : decode cL_cellar 334 = .ok (.aload_n 0, 1) := by decide +kernel
theorem dL_cellar_335 : decode cL_cellar 335 = .ok (.iload 6, 2) := by decide +kernel
theorem dL_cellar_337 : decode cL_cellar 337 = .ok (.iload 8, 2) := by decide +kernel
theorem dL_cellar_339 : decode cL_cellar 339 = .ok (.invokevirtual 365, 3) := by decide +kernel
theorem dL_cellar_342 : decode cL_cellar 342 = .ok (.aload_n 0, 1) := by decide +kernel
theorem dL_cellar_343 : decode cL_cellar 343 = .ok (.aload_n 1, 1) := by decide +kernel
theorem dL_cellar_344 : decode cL_cellar 344 = .ok (.iload 6, 2) := by decide +kernel
theorem dL_cellar_346 : decode cL_cellar 346 = .ok (.iload 8, 2) := by decide +kernel
theorem dL_cellar_348 : decode cL_cellar 348 = .ok (.invokestatic 361, 3) := by decide +kernel
theorem dL_cellar_351 : decode cL_cellar 351 = .ok (.if_icmp .eq 5, 3) := by decide +kernel
theorem dL_cellar_354 : decode cL_cellar 354 = .ok (.iconst 0, 1) := by decide +kernel
theorem dL_cellar_355 : decode cL_cellar 355 = .ok (.ireturn, 1) := by decide +kernel
theorem dL_cellar_356 : decode cL_cellar 356 = .ok (.iinc 8 457, 6) := by decide +kernel
theorem dL_cellar_362 : decode cL_cellar 362 = .ok (.goto (-36), 3) := by decide +kernel
theorem dL_cellar_365 : decode cL_cellar 365 = .ok (.iinc 6 1, 3) := by decide +kernel
theorem dL_cellar_368 : decode cL_cellar 368 = .ok (.goto (-119), 3) := by decide +kernel
theorem dL_cellar_371 : decode cL_cellar 371 = .ok (.iconst 0, 1) := by decide +kernel
theorem dL_cellar_372 : decode cL_cellar 372 = .ok (.istore 6, 2) := by decide +kernel
theorem dL_cellar_374 : decode cL_cellar 374 = .ok (.iload 6, 2) := by decide +kernel
theorem dL_cellar_376 : decode cL_cellar 376 = .ok (.aload_n 0, 1) := by decide +kernel
theorem dL_cellar_377 : decode cL_cellar 377 = .ok (.invokevirtual 148, 3) := by decide +kernel
theorem dL_cellar_380 : decode cL_cellar 380 = .ok (.if_icmp .ge 187, 3) := by decide +kernel
theorem dL_cellar_383 : decode cL_cellar 383 = .ok (.bipush 40, 2) := by decide +kernel
theorem dL_cellar_385 : decode cL_cellar 385 = .ok (.istore 7, 2) := by decide +kernel
theorem dL_cellar_387 : decode cL_cellar 387 = .ok (.iload 7, 2) := by decide +kernel
theorem dL_cellar_389 : decode cL_cellar 389 = .ok (.sipush 900, 3) := by decide +kernel
theorem dL_cellar_392 : decode cL_cellar 392 = .ok (.if_icmp .ge 169, 3) := by decide +kernel
theorem dL_cellar_395 : decode cL_cellar 395 = .ok (.bipush 7, 2) := by decide +kernel
theorem dL_cellar_397 : decode cL_cellar 397 = .ok (.iload 7, 2) := by decide +kernel
theorem dL_cellar_399 : decode cL_cellar 399 = .ok (.imul, 1) := by decide +kernel
theorem dL_cellar_400 : decode cL_cellar 400 = .ok (.bipush 31, 2) := by decide +kernel
theorem dL_cellar_402 : decode cL_cellar 402 = .ok (.iload 6, 2) := by decide +kernel
theorem dL_cellar_404 : decode cL_cellar 404 = .ok (.imul, 1) := by decide +kernel
theorem dL_cellar_405 : decode cL_cellar 405 = .ok (.iadd, 1) := by decide +kernel
theorem dL_cellar_406 : decode cL_cellar 406 = .ok (.sipush 200, 3) := by decide +kernel
theorem dL_cellar_409 : decode cL_cellar 409 = .ok (.irem, 1) := by decide +kernel
theorem dL_cellar_410 : decode cL_cellar 410 = .ok (.istore 8, 2) := by decide +kernel
theorem dL_cellar_412 : decode cL_cellar 412 = .ok (.aload_n 0, 1) := by decide +kernel
theorem dL_cellar_413 : decode cL_cellar 413 = .ok (.invokevirtual 151, 3) := by decide +kernel
theorem dL_cellar_416 : decode cL_cellar 416 = .ok (.bipush 20, 2) := by decide +kernel
theorem dL_cellar_418 : decode cL_cellar 418 = .ok (.if_icmp .ne 7, 3) := by decide +kernel
theorem dL_cellar_421 : decode cL_cellar 421 = .ok (.iconst 1, 1) := by decide +kernel
theorem dL_cellar_422 : decode cL_cellar 422 = .ok (.goto 39, 3) := by decide +kernel
theorem dL_cellar_425 : decode cL_cellar 425 = .ok (.aload_n 1, 1) := by decide +kernel
theorem dL_cellar_426 : decode cL_cellar 426 = .ok (.iload 8, 2) := by decide +kernel
theorem dL_cellar_428 : decode cL_cellar 428 = .ok (.invokestatic 181, 3) := by decide +kernel
theorem dL_cellar_431 : decode cL_cellar 431 = .ok (.iconst (-1), 1) := by decide +kernel
theorem dL_cellar_432 : decode cL_cellar 432 = .ok (.if_icmp .ne 7, 3) := by decide +kernel
theorem dL_cellar_435 : decode cL_cellar 435 = .ok (.iconst 2, 1) := by decide +kernel
theorem dL_cellar_436 : decode cL_cellar 436 = .ok (.goto 25, 3) := by decide +kernel
theorem dL_cellar_439 : decode cL_cellar 439 = .ok (.aload_n 0, 1) := by decide +kernel
theorem dL_cellar_440 : decode cL_cellar 440 = .ok (.aload_n 1, 1) := by decide +kernel
theorem dL_cellar_441 : decode cL_cellar 441 = .ok (.aload_n 1, 1) := by decide +kernel
theorem dL_cellar_442 : decode cL_cellar 442 = .ok (.iload 6, 2) := by decide +kernel
theorem dL_cellar_444 : decode cL_cellar 444 = .ok (.invokestatic 112, 3) := by decide +kernel
theorem dL_cellar_447 : decode cL_cellar 447 = .ok (.iload 7, 2) := by decide +kernel
theorem dL_cellar_449 : decode cL_cellar 449 = .ok (.invokestatic 361, 3) := by decide +kernel
theorem dL_cellar_452 : decode cL_cellar 452 = .ok (.iconst (-1), 1) := by decide +kernel
theorem dL_cellar_453 : decode cL_cellar 453 = .ok (.if_icmp .ne 7, 3) := by decide +kernel
theorem dL_cellar_456 : decode cL_cellar 456 = .ok (.iconst 3, 1) := by decide +kernel
theorem dL_cellar_457 : decode cL_cellar 457 = .ok (.goto 4, 3) := by decide +kernel
theorem dL_cellar_460 : decode cL_cellar 460 = .ok (.iconst 0, 1) := by decide +kernel
theorem dL_cellar_461 : decode cL_cellar 461 = .ok (.istore 9, 2) := by decide +kernel
theorem dL_cellar_463 : decode cL_cellar 463 = .ok (.aload_n 0, 1) := by decide +kernel
theorem dL_cellar_464 : decode cL_cellar 464 = .ok (.iload 6, 2) := by decide +kernel
theorem dL_cellar_466 : decode cL_cellar 466 = .ok (.invokevirtual 166, 3) := by decide +kernel
theorem dL_cellar_469 : decode cL_cellar 469 = .ok (.iload 7, 2) := by decide +kernel
theorem dL_cellar_471 : decode cL_cellar 471 = .ok (.iadd, 1) := by decide +kernel
theorem dL_cellar_472 : decode cL_cellar 472 = .ok (.aload_n 0, 1) := by decide +kernel
theorem dL_cellar_473 : decode cL_cellar 473 = .ok (.iload 6, 2) := by decide +kernel
theorem dL_cellar_475 : decode cL_cellar 475 = .ok (.invokevirtual 163, 3) := by decide +kernel
theorem dL_cellar_478 : decode cL_cellar 478 = .ok (.if_icmp .le 12, 3) := by decide +kernel
theorem dL_cellar_481 : decode cL_cellar 481 = .ok (.aload_n 1, 1) := by decide +kernel
theorem dL_cellar_482 : decode cL_cellar 482 = .ok (.invokestatic 51, 3) := by decide +kernel
theorem dL_cellar_485 : decode cL_cellar 485 = .ok (.iconst 1, 1) := by decide +kernel
theorem dL_cellar_486 : decode cL_cellar 486 = .ok (.isub, 1) := by decide +kernel
theorem dL_cellar_487 : decode cL_cellar 487 = .ok (.goto 9, 3) := by decide +kernel
theorem dL_cellar_490 : decode cL_cellar 490 = .ok (.aload_n 1, 1) := by decide +kernel
theorem dL_cellar_491 : decode cL_cellar 491 = .ok (.iload 8, 2) := by decide +kernel
theorem dL_cellar_493 : decode cL_cellar 493 = .ok (.invokestatic 181, 3) := by decide +kernel
theorem dL_cellar_496 : decode cL_cellar 496 = .ok (.istore 10, 2) := by decide +kernel
theorem dL_cellar_498 : decode cL_cellar 498 = .ok (.aload_n 0, 1) := by decide +kernel
theorem dL_cellar_499 : decode cL_cellar 499 = .ok (.iload 6, 2) := by decide +kernel
theorem dL_cellar_501 : decode cL_cellar 501 = .ok (.iload 7, 2) := by decide +kernel
theorem dL_cellar_503 : decode cL_cellar 503 = .ok (.iload 8, 2) := by decide +kernel
theorem dL_cellar_505 : decode cL_cellar 505 = .ok (.invokevirtual 368, 3) := by decide +kernel
theorem dL_cellar_508 : decode cL_cellar 508 = .ok (.iload 9, 2) := by decide +kernel
theorem dL_cellar_510 : decode cL_cellar 510 = .ok (.if_icmp .ne 40, 3) := by decide +kernel
theorem dL_cellar_513 : decode cL_cellar 513 = .ok (.aload_n 0, 1) := by decide +kernel
theorem dL_cellar_514 : decode cL_cellar 514 = .ok (.iload 6, 2) := by decide +kernel
theorem dL_cellar_516 : decode cL_cellar 516 = .ok (.iload 7, 2) := by decide +kernel
theorem dL_cellar_518 : decode cL_cellar 518 = .ok (.iload 8, 2) := by decide +kernel
theorem dL_cellar_520 : decode cL_cellar 520 = .ok (.invokevirtual 371, 3) := by decide +kernel
theorem dL_cellar_523 : decode cL_cellar 523 = .ok (.iload 9, 2) := by decide +kernel
theorem dL_cellar_525 : decode cL_cellar 525 = .ok (.ifCond .le 7, 3) := by decide +kernel
theorem dL_cellar_528 : decode cL_cellar 528 = .ok (.iconst (-1), 1) := by decide +kernel
theorem dL_cellar_529 : decode cL_cellar 529 = .ok (.goto 18, 3) := by decide +kernel
theorem dL_cellar_532 : decode cL_cellar 532 = .ok (.iload 7, 2) := by decide +kernel
theorem dL_cellar_534 : decode cL_cellar 534 = .ok (.aload_n 0, 1) := by decide +kernel
theorem dL_cellar_535 : decode cL_cellar 535 = .ok (.aload_n 1, 1) := by decide +kernel
theorem dL_cellar_536 : decode cL_cellar 536 = .ok (.iload 6, 2) := by decide +kernel
theorem dL_cellar_538 : decode cL_cellar 538 = .ok (.invokestatic 112, 3) := by decide +kernel
theorem dL_cellar_541 : decode cL_cellar 541 = .ok (.iload 10, 2) := by decide +kernel
theorem dL_cellar_543 : decode cL_cellar 543 = .ok (.invokevirtual 160, 3) := by decide +kernel
theorem dL_cellar_546 : decode cL_cellar 546 = .ok (.imul, 1) := by decide +kernel
theorem dL_cellar_547 : decode cL_cellar 547 = .ok (.if_icmp .eq 5, 3) := by decide +kernel
theorem dL_cellar_550 : decode cL_cellar 550 = .ok (.iconst 0, 1) := by decide +kernel
theorem dL_cellar_551 : decode cL_cellar 551 = .ok (.ireturn, 1) := by decide +kernel
theorem dL_cellar_552 : decode cL_cellar 552 = .ok (.iinc 7 271, 6) := by decide +kernel
theorem dL_cellar_558 : decode cL_cellar 558 = .ok (.goto (-171), 3) := by decide +kernel
theorem dL_cellar_561 : decode cL_cellar 561 = .ok (.iinc 6 1, 3) := by decide +kernel
theorem dL_cellar_564 : decode cL_cellar 564 = .ok (.goto (-190), 3) := by decide +kernel
theorem dL_cellar_567 : decode cL_cellar 567 = .ok (.iconst 1, 1) := by decide +kernel
theorem dL_cellar_568 : decode cL_cellar 568 = .ok (.ireturn, 1) := by decide +kernel
theorem dL_law_0 : decode cL_law 0 = .ok (.new 25, 3) := by decide +kernel
theorem dL_law_3 : decode cL_law 3 = .ok (.dup, 1) := by decide +kernel
theorem dL_law_4 : decode cL_law 4 = .ok (.invokespecial 374, 3) := by decide +kernel
theorem dL_law_7 : decode cL_law 7 = .ok (.astore_n 1, 1) := by decide +kernel
theorem dL_law_8 : decode cL_law 8 = .ok (.bipush 21, 2) := by decide +kernel
theorem dL_law_10 : decode cL_law 10 = .ok (.newarray .int, 2) := by decide +kernel
theorem dL_law_12 : decode cL_law 12 = .ok (.astore_n 2, 1) := by decide +kernel
theorem dL_law_13 : decode cL_law 13 = .ok (.bipush 21, 2) := by decide +kernel
theorem dL_law_15 : decode cL_law 15 = .ok (.newarray .int, 2) := by decide +kernel
theorem dL_law_17 : decode cL_law 17 = .ok (.astore_n 3, 1) := by decide +kernel
theorem dL_law_18 : decode cL_law 18 = .ok (.aload_n 1, 1) := by decide +kernel
theorem dL_law_19 : decode cL_law 19 = .ok (.aload_n 0, 1) := by decide +kernel
theorem dL_law_20 : decode cL_law 20 = .ok (.invokestatic 375, 3) := by decide +kernel
theorem dL_law_23 : decode cL_law 23 = .ok (.ifCond .eq 13, 3) := by decide +kernel
theorem dL_law_26 : decode cL_law 26 = .ok (.aload_n 1, 1) := by decide +kernel
theorem dL_law_27 : decode cL_law 27 = .ok (.aload_n 0, 1) := by decide +kernel
theorem dL_law_28 : decode cL_law 28 = .ok (.aload_n 2, 1) := by decide +kernel
theorem dL_law_29 : decode cL_law 29 = .ok (.aload_n 3, 1) := by decide +kernel
theorem dL_law_30 : decode cL_law 30 = .ok (.invokestatic 377, 3) := by decide +kernel
theorem dL_law_33 : decode cL_law 33 = .ok (.ifCond .ne 5, 3) := by decide +kernel
theorem dL_law_36 : decode cL_law 36 = .ok (.iconst 0, 1) := by decide +kernel
theorem dL_law_37 : decode cL_law 37 = .ok (.ireturn, 1) := by decide +kernel
theorem dL_law_38 : decode cL_law 38 = .ok (.bipush 50, 2) := by decide +kernel
theorem dL_law_40 : decode cL_law 40 = .ok (.istore 4, 2) := by decide +kernel
theorem dL_law_42 : decode cL_law 42 = .ok (.iload 4, 2) := by decide +kernel
theorem dL_law_44 : decode cL_law 44 = .ok (.iconst 3, 1) := by decide +kernel
theorem dL_law_45 : decode cL_law 45 = .ok (.iadd, 1) := by decide +kernel
theorem dL_law_46 : decode cL_law 46 = .ok (.sipush 190, 3) := by decide +kernel
theorem dL_law_49 : decode cL_law 49 = .ok (.if_icmp .ge 136, 3) := by decide +kernel
theorem dL_law_52 : decode cL_law 52 = .ok (.aload_n 1, 1) := by decide +kernel
theorem dL_law_53 : decode cL_law 53 = .ok (.aload_n 0, 1) := by decide +kernel
theorem dL_law_54 : decode cL_law 54 = .ok (.invokestatic 118, 3) := by decide +kernel
theorem dL_law_57 : decode cL_law 57 = .ok (.invokestatic 381, 3) := by decide +kernel
theorem dL_law_60 : decode cL_law 60 = .ok (.lstore 5, 2) := by decide +kernel
theorem dL_law_62 : decode cL_law 62 = .ok (.aload_n 1, 1) := by decide +kernel
theorem dL_law_63 : decode cL_law 63 = .ok (.invokevirtual 151, 3) := by decide +kernel
theorem dL_law_66 : decode cL_law 66 = .ok (.istore 7, 2) := by decide +kernel
theorem dL_law_68 : decode cL_law 68 = .ok (.aload_n 1, 1) := by decide +kernel
theorem dL_law_69 : decode cL_law 69 = .ok (.aload_n 0, 1) := by decide +kernel
theorem dL_law_70 : decode cL_law 70 = .ok (.iload 4, 2) := by decide +kernel
theorem dL_law_72 : decode cL_law 72 = .ok (.invokestatic 385, 3) := by decide +kernel
theorem dL_law_75 : decode cL_law 75 = .ok (.istore 8, 2) := by decide +kernel
theorem dL_law_77 : decode cL_law 77 = .ok (.iload 8, 2) := by decide +kernel
theorem dL_law_79 : decode cL_law 79 = .ok (.bipush (-99), 2) := by decide +kernel
theorem dL_law_81 : decode cL_law 81 = .ok (.if_icmp .ne 19, 3) := by decide +kernel
theorem dL_law_84 : decode cL_law 84 = .ok (.aload_n 1, 1) := by decide +kernel
theorem dL_law_85 : decode cL_law 85 = .ok (.aload_n 0, 1) := by decide +kernel
theorem dL_law_86 : decode cL_law 86 = .ok (.invokestatic 118, 3) := by decide +kernel
theorem dL_law_89 : decode cL_law 89 = .ok (.invokestatic 381, 3) := by decide +kernel
theorem dL_law_92 : decode cL_law 92 = .ok (.lload 5, 2) := by decide +kernel
theorem dL_law_94 : decode cL_law 94 = .ok (.lcmp, 1) := by decide +kernel
theorem dL_law_95 : decode cL_law 95 = .ok (.ifCond .eq 84, 3) := by decide +kernel
theorem dL_law_98 : decode cL_law 98 = .ok (.iconst 0, 1) := by decide +kernel
theorem dL_law_99 : decode cL_law 99 = .ok (.ireturn, 1) := by decide +kernel
theorem dL_law_100 : decode cL_law 100 = .ok (.aload_n 1, 1) := by decide +kernel
theorem dL_law_101 : decode cL_law 101 = .ok (.invokevirtual 151, 3) := by decide +kernel
theorem dL_law_104 : decode cL_law 104 = .ok (.iload 7, 2) := by decide +kernel
theorem dL_law_106 : decode cL_law 106 = .ok (.if_icmp .le 23, 3) := by decide +kernel
theorem dL_law_109 : decode cL_law 109 = .ok (.aload_n 2, 1) := by decide +kernel
theorem dL_law_110 : decode cL_law 110 = .ok (.iload 7, 2) := by decide +kernel
theorem dL_law_112 : decode cL_law 112 = .ok (.aload_n 0, 1) := by decide +kernel
theorem dL_law_113 : decode cL_law 113 = .ok (.iload 4, 2) := by decide +kernel
theorem dL_law_115 : decode cL_law 115 = .ok (.invokestatic 245, 3) := by decide +kernel
theorem dL_law_118 : decode cL_law 118 = .ok (.iastore, 1) := by decide +kernel
theorem dL_law_119 : decode cL_law 119 = .ok (.aload_n 3, 1) := by decide +kernel
theorem dL_law_120 : decode cL_law 120 = .ok (.iload 7, 2) := by decide +kernel
theorem dL_law_122 : decode cL_law 122 = .ok (.aload_n 0, 1) := by decide +kernel
theorem dL_law_123 : decode cL_law 123 = .ok (.iload 4, 2) := by decide +kernel
theorem dL_law_125 : decode cL_law 125 = .ok (.invokestatic 248, 3) := by decide +kernel
theorem dL_law_128 : decode cL_law 128 = .ok (.iastore, 1) := by decide +kernel
theorem dL_law_129 : decode cL_law 129 = .ok (.aload_n 1, 1) := by decide +kernel
theorem dL_law_130 : decode cL_law 130 = .ok (.aload_n 0, 1) := by decide +kernel
theorem dL_law_131 : decode cL_law 131 = .ok (.aload_n 2, 1) := by decide +kernel
theorem dL_law_132 : decode cL_law 132 = .ok (.aload_n 3, 1) := by decide +kernel
theorem dL_law_133 : decode cL_law 133 = .ok (.invokestatic 377, 3) := by decide +kernel
theorem dL_law_136 : decode cL_law 136 = .ok (.ifCond .ne 5, 3) := by decide +kernel
theorem dL_law_139 : decode cL_law 139 = .ok (.iconst 0, 1) := by decide +kernel
theorem dL_law_140 : decode cL_law 140 = .ok (.ireturn, 1) := by decide +kernel
theorem dL_law_141 : decode cL_law 141 = .ok (.aload_n 0, 1) := by decide +kernel
theorem dL_law_142 : decode cL_law 142 = .ok (.iload 4, 2) := by decide +kernel
theorem dL_law_144 : decode cL_law 144 = .ok (.iconst 1, 1) := by decide +kernel
theorem dL_law_145 : decode cL_law 145 = .ok (.iadd, 1) := by decide +kernel
theorem dL_law_146 : decode cL_law 146 = .ok (.iconst 4, 1) := by decide +kernel
theorem dL_law_147 : decode cL_law 147 = .ok (.invokestatic 40, 3) := by decide +kernel
theorem dL_law_150 : decode cL_law 150 = .ok (.ifCond .le 6, 3) := by decide +kernel
theorem dL_law_153 : decode cL_law 153 = .ok (.goto 26, 3) := by decide +kernel
theorem dL_law_156 : decode cL_law 156 = .ok (.aload_n 1, 1) := by decide +kernel
theorem dL_law_157 : decode cL_law 157 = .ok (.invokevirtual 389, 3) := by decide +kernel
theorem dL_law_160 : decode cL_law 160 = .ok (.ifCond .lt 17, 3) := by decide +kernel
theorem dL_law_163 : decode cL_law 163 = .ok (.aload_n 1, 1) := by decide +kernel
theorem dL_law_164 : decode cL_law 164 = .ok (.aload_n 0, 1) := by decide +kernel
theorem dL_law_165 : decode cL_law 165 = .ok (.invokestatic 118, 3) := by decide +kernel
theorem dL_law_168 : decode cL_law 168 = .ok (.invokestatic 381, 3) := by decide +kernel
theorem dL_law_171 : decode cL_law 171 = .ok (.lload 5, 2) := by decide +kernel
theorem dL_law_173 : decode cL_law 173 = .ok (.lcmp, 1) := by decide +kernel
theorem dL_law_174 : decode cL_law 174 = .ok (.ifCond .eq 5, 3) := by decide +kernel
theorem dL_law_177 : decode cL_law 177 = .ok (.iconst 0, 1) := by decide +kernel
theorem dL_law_178 : decode cL_law 178 = .ok (.ireturn, 1) := by decide +kernel
theorem dL_law_179 : decode cL_law 179 = .ok (.iinc 4 4, 3) := by decide +kernel
theorem dL_law_182 : decode cL_law 182 = .ok (.goto (-140), 3) := by decide +kernel
theorem dL_law_185 : decode cL_law 185 = .ok (.iconst 1, 1) := by decide +kernel
theorem dL_law_186 : decode cL_law 186 = .ok (.ireturn, 1) := by decide +kernel
