theorem dL_load_482 : decode cL_load 482 = .ok (.iconst 0, 1) := by decide +kernel
theorem dL_load_483 : decode cL_load 483 = .ok (.ireturn, 1) := by decide +kernel
theorem dL_load_484 : decode cL_load 484 = .ok (.iinc 4 1, 3) := by decide +kernel
theorem dL_load_487 : decode cL_load 487 = .ok (.goto (-31), 3) := by decide +kernel
theorem dL_load_490 : decode cL_load 490 = .ok (.iinc 3 1, 3) := by decide +kernel
theorem dL_load_493 : decode cL_load 493 = .ok (.goto (-48), 3) := by decide +kernel
theorem dL_load_496 : decode cL_load 496 = .ok (.iconst 0, 1) := by decide +kernel
theorem dL_load_497 : decode cL_load 497 = .ok (.istore_n 3, 1) := by decide +kernel
theorem dL_load_498 : decode cL_load 498 = .ok (.iload_n 3, 1) := by decide +kernel
theorem dL_load_499 : decode cL_load 499 = .ok (.aload_n 1, 1) := by decide +kernel
theorem dL_load_500 : decode cL_load 500 = .ok (.invokestatic 104, 3) := by decide +kernel
theorem dL_load_503 : decode cL_load 503 = .ok (.if_icmp .ge 37, 3) := by decide +kernel
theorem dL_load_506 : decode cL_load 506 = .ok (.aload_n 0, 1) := by decide +kernel
theorem dL_load_507 : decode cL_load 507 = .ok (.iload_n 3, 1) := by decide +kernel
theorem dL_load_508 : decode cL_load 508 = .ok (.invokevirtual 163, 3) := by decide +kernel
theorem dL_load_511 : decode cL_load 511 = .ok (.aload_n 1, 1) := by decide +kernel
theorem dL_load_512 : decode cL_load 512 = .ok (.iload_n 3, 1) := by decide +kernel
theorem dL_load_513 : decode cL_load 513 = .ok (.invokestatic 115, 3) := by decide +kernel
theorem dL_load_516 : decode cL_load 516 = .ok (.aload_n 1, 1) := by decide +kernel
theorem dL_load_517 : decode cL_load 517 = .ok (.invokestatic 66, 3) := by decide +kernel
theorem dL_load_520 : decode cL_load 520 = .ok (.imul, 1) := by decide +kernel
theorem dL_load_521 : decode cL_load 521 = .ok (.if_icmp .ne 11, 3) := by decide +kernel
theorem dL_load_524 : decode cL_load 524 = .ok (.aload_n 0, 1) := by decide +kernel
theorem dL_load_525 : decode cL_load 525 = .ok (.iload_n 3, 1) := by decide +kernel
theorem dL_load_526 : decode cL_load 526 = .ok (.invokevirtual 166, 3) := by decide +kernel
theorem dL_load_529 : decode cL_load 529 = .ok (.ifCond .eq 5, 3) := by decide +kernel
theorem dL_load_532 : decode cL_load 532 = .ok (.iconst 0, 1) := by decide +kernel
theorem dL_load_533 : decode cL_load 533 = .ok (.ireturn, 1) := by decide +kernel
theorem dL_load_534 : decode cL_load 534 = .ok (.iinc 3 1, 3) := by decide +kernel
theorem dL_load_537 : decode cL_load 537 = .ok (.goto (-39), 3) := by decide +kernel
theorem dL_load_540 : decode cL_load 540 = .ok (.iconst 0, 1) := by decide +kernel
theorem dL_load_541 : decode cL_load 541 = .ok (.istore_n 3, 1) := by decide +kernel
theorem dL_load_542 : decode cL_load 542 = .ok (.iload_n 3, 1) := by decide +kernel
theorem dL_load_543 : decode cL_load 543 = .ok (.aload_n 1, 1) := by decide +kernel
theorem dL_load_544 : decode cL_load 544 = .ok (.invokestatic 118, 3) := by decide +kernel
theorem dL_load_547 : decode cL_load 547 = .ok (.if_icmp .ge 36, 3) := by decide +kernel
theorem dL_load_550 : decode cL_load 550 = .ok (.aload_n 0, 1) := by decide +kernel
theorem dL_load_551 : decode cL_load 551 = .ok (.iload_n 3, 1) := by decide +kernel
theorem dL_load_552 : decode cL_load 552 = .ok (.invokevirtual 169, 3) := by decide +kernel
theorem dL_load_555 : decode cL_load 555 = .ok (.ifCond .ne 20, 3) := by decide +kernel
theorem dL_load_558 : decode cL_load 558 = .ok (.aload_n 0, 1) := by decide +kernel
theorem dL_load_559 : decode cL_load 559 = .ok (.iload_n 3, 1) := by decide +kernel
theorem dL_load_560 : decode cL_load 560 = .ok (.invokevirtual 172, 3) := by decide +kernel
theorem dL_load_563 : decode cL_load 563 = .ok (.iconst (-1), 1) := by decide +kernel
theorem dL_load_564 : decode cL_load 564 = .ok (.if_icmp .ne 11, 3) := by decide +kernel
theorem dL_load_567 : decode cL_load 567 = .ok (.aload_n 0, 1) := by decide +kernel
theorem dL_load_568 : decode cL_load 568 = .ok (.iload_n 3, 1) := by decide +kernel
theorem dL_load_569 : decode cL_load 569 = .ok (.invokevirtual 175, 3) := by decide +kernel
theorem dL_load_572 : decode cL_load 572 = .ok (.ifCond .eq 5, 3) := by decide +kernel
theorem dL_load_575 : decode cL_load 575 = .ok (.iconst 0, 1) := by decide +kernel
theorem dL_load_576 : decode cL_load 576 = .ok (.ireturn, 1) := by decide +kernel
theorem dL_load_577 : decode cL_load 577 = .ok (.iinc 3 1, 3) := by decide +kernel
theorem dL_load_580 : decode cL_load 580 = .ok (.goto (-38), 3) := by decide +kernel
theorem dL_load_583 : decode cL_load 583 = .ok (.iconst 0, 1) := by decide +kernel
theorem dL_load_584 : decode cL_load 584 = .ok (.istore_n 3, 1) := by decide +kernel
theorem dL_load_585 : decode cL_load 585 = .ok (.iload_n 3, 1) := by decide +kernel
theorem dL_load_586 : decode cL_load 586 = .ok (.sipush 251, 3) := by decide +kernel
theorem dL_load_589 : decode cL_load 589 = .ok (.if_icmp .ge 24, 3) := by decide +kernel
theorem dL_load_592 : decode cL_load 592 = .ok (.aload_n 0, 1) := by decide +kernel
theorem dL_load_593 : decode cL_load 593 = .ok (.iload_n 3, 1) := by decide +kernel
theorem dL_load_594 : decode cL_load 594 = .ok (.invokevirtual 178, 3) := by decide +kernel
theorem dL_load_597 : decode cL_load 597 = .ok (.aload_n 1, 1) := by decide +kernel
theorem dL_load_598 : decode cL_load 598 = .ok (.iload_n 3, 1) := by decide +kernel
theorem dL_load_599 : decode cL_load 599 = .ok (.invokestatic 181, 3) := by decide +kernel
theorem dL_load_602 : decode cL_load 602 = .ok (.if_icmp .eq 5, 3) := by decide +kernel
theorem dL_load_605 : decode cL_load 605 = .ok (.iconst 0, 1) := by decide +kernel
theorem dL_load_606 : decode cL_load 606 = .ok (.ireturn, 1) := by decide +kernel
theorem dL_load_607 : decode cL_load 607 = .ok (.iinc 3 7, 3) := by decide +kernel
theorem dL_load_610 : decode cL_load 610 = .ok (.goto (-25), 3) := by decide +kernel
theorem dL_load_613 : decode cL_load 613 = .ok (.iconst 1, 1) := by decide +kernel
theorem dL_load_614 : decode cL_load 614 = .ok (.ireturn, 1) := by decide +kernel
theorem dL_all_0 : decode cL_all 0 = .ok (.ldc2_w 184, 3) := by decide +kernel
theorem dL_all_3 : decode cL_all 3 = .ok (.lstore_n 2, 1) := by decide +kernel
theorem dL_all_4 : decode cL_all 4 = .ok (.iconst 0, 1) := by decide +kernel
theorem dL_all_5 : decode cL_all 5 = .ok (.istore 4, 2) := by decide +kernel
theorem dL_all_7 : decode cL_all 7 = .ok (.iload 4, 2) := by decide +kernel
theorem dL_all_9 : decode cL_all 9 = .ok (.aload_n 0, 1) := by decide +kernel
theorem dL_all_10 : decode cL_all 10 = .ok (.invokevirtual 151, 3) := by decide +kernel
theorem dL_all_13 : decode cL_all 13 = .ok (.if_icmp .ge 67, 3) := by decide +kernel
theorem dL_all_16 : decode cL_all 16 = .ok (.ldc2_w 186, 3) := by decide +kernel
theorem dL_all_19 : decode cL_all 19 = .ok (.lload_n 2, 1) := by decide +kernel
theorem dL_all_20 : decode cL_all 20 = .ok (.lmul, 1) := by decide +kernel
theorem dL_all_21 : decode cL_all 21 = .ok (.ldc2_w 188, 3) := by decide +kernel
theorem dL_all_24 : decode cL_all 24 = .ok (.aload_n 0, 1) := by decide +kernel
theorem dL_all_25 : decode cL_all 25 = .ok (.iload 4, 2) := by decide +kernel
theorem dL_all_27 : decode cL_all 27 = .ok (.invokevirtual 190, 3) := by decide +kernel
theorem dL_all_30 : decode cL_all 30 = .ok (.i2l, 1) := by decide +kernel
theorem dL_all_31 : decode cL_all 31 = .ok (.lmul, 1) := by decide +kernel
theorem dL_all_32 : decode cL_all 32 = .ok (.ladd, 1) := by decide +kernel
theorem dL_all_33 : decode cL_all 33 = .ok (.ldc2_w 193, 3) := by decide +kernel
theorem dL_all_36 : decode cL_all 36 = .ok (.aload_n 0, 1) := by decide +kernel
theorem dL_all_37 : decode cL_all 37 = .ok (.iload 4, 2) := by decide +kernel
theorem dL_all_39 : decode cL_all 39 = .ok (.invokevirtual 195, 3) := by decide +kernel
theorem dL_all_42 : decode cL_all 42 = .ok (.i2l, 1) := by decide +kernel
theorem dL_all_43 : decode cL_all 43 = .ok (.lmul, 1) := by decide +kernel
theorem dL_all_44 : decode cL_all 44 = .ok (.ladd, 1) := by decide +kernel
theorem dL_all_45 : decode cL_all 45 = .ok (.ldc2_w 198, 3) := by decide +kernel
theorem dL_all_48 : decode cL_all 48 = .ok (.aload_n 0, 1) := by decide +kernel
theorem dL_all_49 : decode cL_all 49 = .ok (.iload 4, 2) := by decide +kernel
theorem dL_all_51 : decode cL_all 51 = .ok (.invokevirtual 200, 3) := by decide +kernel
theorem dL_all_54 : decode cL_all 54 = .ok (.i2l, 1) := by decide +kernel
theorem dL_all_55 : decode cL_all 55 = .ok (.lmul, 1) := by decide +kernel
theorem dL_all_56 : decode cL_all 56 = .ok (.ladd, 1) := by decide +kernel
theorem dL_all_57 : decode cL_all 57 = .ok (.aload_n 0, 1) := by decide +kernel
theorem dL_all_58 : decode cL_all 58 = .ok (.iload 4, 2) := by decide +kernel
theorem dL_all_60 : decode cL_all 60 = .ok (.invokevirtual 203, 3) := by decide +kernel
theorem dL_all_63 : decode cL_all 63 = .ok (.ifCond .eq 7, 3) := by decide +kernel
theorem dL_all_66 : decode cL_all 66 = .ok (.iconst 1, 1) := by decide +kernel
theorem dL_all_67 : decode cL_all 67 = .ok (.goto 4, 3) := by decide +kernel
theorem dL_all_70 : decode cL_all 70 = .ok (.iconst 0, 1) := by decide +kernel
theorem dL_all_71 : decode cL_all 71 = .ok (.i2l, 1) := by decide +kernel
theorem dL_all_72 : decode cL_all 72 = .ok (.ladd, 1) := by decide +kernel
theorem dL_all_73 : decode cL_all 73 = .ok (.lstore_n 2, 1) := by decide +kernel
theorem dL_all_74 : decode cL_all 74 = .ok (.iinc 4 1, 3) := by decide +kernel
theorem dL_all_77 : decode cL_all 77 = .ok (.goto (-70), 3) := by decide +kernel
theorem dL_all_80 : decode cL_all 80 = .ok (.iconst 0, 1) := by decide +kernel
theorem dL_all_81 : decode cL_all 81 = .ok (.istore 4, 2) := by decide +kernel
theorem dL_all_83 : decode cL_all 83 = .ok (.iload 4, 2) := by decide +kernel
theorem dL_all_85 : decode cL_all 85 = .ok (.iload_n 1, 1) := by decide +kernel
theorem dL_all_86 : decode cL_all 86 = .ok (.if_icmp .ge 47, 3) := by decide +kernel
theorem dL_all_89 : decode cL_all 89 = .ok (.ldc2_w 207, 3) := by decide +kernel
theorem dL_all_92 : decode cL_all 92 = .ok (.lload_n 2, 1) := by decide +kernel
theorem dL_all_93 : decode cL_all 93 = .ok (.lmul, 1) := by decide +kernel
theorem dL_all_94 : decode cL_all 94 = .ok (.ldc2_w 209, 3) := by decide +kernel
theorem dL_all_97 : decode cL_all 97 = .ok (.aload_n 0, 1) := by decide +kernel
theorem dL_all_98 : decode cL_all 98 = .ok (.iload 4, 2) := by decide +kernel
theorem dL_all_100 : decode cL_all 100 = .ok (.invokevirtual 169, 3) := by decide +kernel
theorem dL_all_103 : decode cL_all 103 = .ok (.i2l, 1) := by decide +kernel
theorem dL_all_104 : decode cL_all 104 = .ok (.lmul, 1) := by decide +kernel
theorem dL_all_105 : decode cL_all 105 = .ok (.ladd, 1) := by decide +kernel
theorem dL_all_106 : decode cL_all 106 = .ok (.ldc2_w 198, 3) := by decide +kernel
theorem dL_all_109 : decode cL_all 109 = .ok (.aload_n 0, 1) := by decide +kernel
theorem dL_all_110 : decode cL_all 110 = .ok (.iload 4, 2) := by decide +kernel
theorem dL_all_112 : decode cL_all 112 = .ok (.invokevirtual 175, 3) := by decide +kernel
theorem dL_all_115 : decode cL_all 115 = .ok (.i2l, 1) := by decide +kernel
theorem dL_all_116 : decode cL_all 116 = .ok (.lmul, 1) := by decide +kernel
theorem dL_all_117 : decode cL_all 117 = .ok (.ladd, 1) := by decide +kernel
theorem dL_all_118 : decode cL_all 118 = .ok (.aload_n 0, 1) := by decide +kernel
theorem dL_all_119 : decode cL_all 119 = .ok (.iload 4, 2) := by decide +kernel
theorem dL_all_121 : decode cL_all 121 = .ok (.invokevirtual 172, 3) := by decide +kernel
theorem dL_all_124 : decode cL_all 124 = .ok (.i2l, 1) := by decide +kernel
theorem dL_all_125 : decode cL_all 125 = .ok (.ladd, 1) := by decide +kernel
theorem dL_all_126 : decode cL_all 126 = .ok (.lstore_n 2, 1) := by decide +kernel
theorem dL_all_127 : decode cL_all 127 = .ok (.iinc 4 1, 3) := by decide +kernel
theorem dL_all_130 : decode cL_all 130 = .ok (.goto (-47), 3) := by decide +kernel
theorem dL_all_133 : decode cL_all 133 = .ok (.iconst 0, 1) := by decide +kernel
theorem dL_all_134 : decode cL_all 134 = .ok (.istore 4, 2) := by decide +kernel
theorem dL_all_136 : decode cL_all 136 = .ok (.iload 4, 2) := by decide +kernel
theorem dL_all_138 : decode cL_all 138 = .ok (.aload_n 0, 1) := by decide +kernel
theorem dL_all_139 : decode cL_all 139 = .ok (.invokevirtual 154, 3) := by decide +kernel
theorem dL_all_142 : decode cL_all 142 = .ok (.if_icmp .ge 35, 3) := by decide +kernel
theorem dL_all_145 : decode cL_all 145 = .ok (.ldc2_w 211, 3) := by decide +kernel
theorem dL_all_148 : decode cL_all 148 = .ok (.lload_n 2, 1) := by decide +kernel
theorem dL_all_149 : decode cL_all 149 = .ok (.lmul, 1) := by decide +kernel
theorem dL_all_150 : decode cL_all 150 = .ok (.ldc2_w 209, 3) := by decide +kernel
theorem dL_all_153 : decode cL_all 153 = .ok (.aload_n 0, 1) := by decide +kernel
theorem dL_all_154 : decode cL_all 154 = .ok (.iload 4, 2) := by decide +kernel
theorem dL_all_156 : decode cL_all 156 = .ok (.invokevirtual 213, 3) := by decide +kernel
theorem dL_all_159 : decode cL_all 159 = .ok (.i2l, 1) := by decide +kernel
theorem dL_all_160 : decode cL_all 160 = .ok (.lmul, 1) := by decide +kernel
theorem dL_all_161 : decode cL_all 161 = .ok (.ladd, 1) := by decide +kernel
theorem dL_all_162 : decode cL_all 162 = .ok (.aload_n 0, 1) := by decide +kernel
theorem dL_all_163 : decode cL_all 163 = .ok (.iload 4, 2) := by decide +kernel
theorem dL_all_165 : decode cL_all 165 = .ok (.invokevirtual 216, 3) := by decide +kernel
theorem dL_all_168 : decode cL_all 168 = .ok (.i2l, 1) := by decide +kernel
theorem dL_all_169 : decode cL_all 169 = .ok (.ladd, 1) := by decide +kernel
theorem dL_all_170 : decode cL_all 170 = .ok (.lstore_n 2, 1) := by decide +kernel
theorem dL_all_171 : decode cL_all 171 = .ok (.iinc 4 1, 3) := by decide +kernel
theorem dL_all_174 : decode cL_all 174 = .ok (.goto (-38), 3) := by decide +kernel
theorem dL_all_177 : decode cL_all 177 = .ok (.iconst 0, 1) := by decide +kernel
theorem dL_all_178 : decode cL_all 178 = .ok (.istore 4, 2) := by decide +kernel
theorem dL_all_180 : decode cL_all 180 = .ok (.iload 4, 2) := by decide +kernel
theorem dL_all_182 : decode cL_all 182 = .ok (.aload_n 0, 1) := by decide +kernel
theorem dL_all_183 : decode cL_all 183 = .ok (.invokevirtual 139, 3) := by decide +kernel
theorem dL_all_186 : decode cL_all 186 = .ok (.if_icmp .ge 43, 3) := by decide +kernel
theorem dL_all_189 : decode cL_all 189 = .ok (.iconst 0, 1) := by decide +kernel
theorem dL_all_190 : decode cL_all 190 = .ok (.istore 5, 2) := by decide +kernel
theorem dL_all_192 : decode cL_all 192 = .ok (.iload 5, 2) := by decide +kernel
theorem dL_all_194 : decode cL_all 194 = .ok (.aload_n 0, 1) := by decide +kernel
theorem dL_all_195 : decode cL_all 195 = .ok (.invokevirtual 142, 3) := by decide +kernel
theorem dL_all_198 : decode cL_all 198 = .ok (.if_icmp .ge 25, 3) := by decide +kernel
theorem dL_all_201 : decode cL_all 201 = .ok (.ldc2_w 219, 3) := by decide +kernel
theorem dL_all_204 : decode cL_all 204 = .ok (.lload_n 2, 1) := by decide +kernel
theorem dL_all_205 : decode cL_all 205 = .ok (.lmul, 1) := by decide +kernel
theorem dL_all_206 : decode cL_all 206 = .ok (.aload_n 0, 1) := by decide +kernel
theorem dL_all_207 : decode cL_all 207 = .ok (.iload 4, 2) := by decide +kernel
theorem dL_all_209 : decode cL_all 209 = .ok (.iload 5, 2) := by decide +kernel
theorem dL_all_211 : decode cL_all 211 = .ok (.invokevirtual 160, 3) := by decide +kernel
theorem dL_all_214 : decode cL_all 214 = .ok (.i2l, 1) := by decide +kernel
theorem dL_all_215 : decode cL_all 215 = .ok (.ladd, 1) := by decide +kernel
theorem dL_all_216 : decode cL_all 216 = .ok (.lstore_n 2, 1) := by decide +kernel
theorem dL_all_217 : decode cL_all 217 = .ok (.iinc 5 1, 3) := by decide +kernel
theorem dL_all_220 : decode cL_all 220 = .ok (.goto (-28), 3) := by decide +kernel
theorem dL_all_223 : decode cL_all 223 = .ok (.iinc 4 1, 3) := by decide +kernel
theorem dL_all_226 : decode cL_all 226 = .ok (.goto (-46), 3) := by decide +kernel
theorem dL_all_229 : decode cL_all 229 = .ok (.ldc2_w 221, 3) := by decide +kernel
theorem dL_all_232 : decode cL_all 232 = .ok (.lload_n 2, 1) := by decide +kernel
theorem dL_all_233 : decode cL_all 233 = .ok (.lmul, 1) := by decide +kernel
theorem dL_all_234 : decode cL_all 234 = .ok (.aload_n 0, 1) := by decide +kernel
theorem dL_all_235 : decode cL_all 235 = .ok (.invokevirtual 157, 3) := by decide +kernel
theorem dL_all_238 : decode cL_all 238 = .ok (.i2l, 1) := by decide +kernel
theorem dL_all_239 : decode cL_all 239 = .ok (.ladd, 1) := by decide +kernel
theorem dL_all_240 : decode cL_all 240 = .ok (.lreturn, 1) := by decide +kernel
theorem dL_delivered_0 : decode cL_delivered 0 = .ok (.aload_n 0, 1) := by decide +kernel
theorem dL_delivered_1 : decode cL_delivered 1 = .ok (.iload_n 1, 1) := by decide +kernel
theorem dL_delivered_2 : decode cL_delivered 2 = .ok (.iload_n 2, 1) := by decide +kernel
theorem dL_delivered_3 : decode cL_delivered 3 = .ok (.iload_n 3, 1) := by decide +kernel
theorem dL_delivered_4 : decode cL_delivered 4 = .ok (.invokevirtual 223, 3) := by decide +kernel
theorem dL_delivered_7 : decode cL_delivered 7 = .ok (.ireturn, 1) := by decide +kernel
theorem dL_delivered_8 : decode cL_delivered 8 = .ok (.astore 4, 2) := by decide +kernel
theorem dL_delivered_10 : decode cL_delivered 10 = .ok (.bipush (-99), 2) := by decide +kernel
theorem dL_delivered_12 : decode cL_delivered 12 = .ok (.ireturn, 1) := by decide +kernel
theorem dL_bottled_0 : decode cL_bottled 0 = .ok (.aload_n 0, 1) := by decide +kernel
theorem dL_bottled_1 : decode cL_bottled 1 = .ok (.iload_n 1, 1) := by decide +kernel
theorem dL_bottled_2 : decode cL_bottled 2 = .ok (.iload_n 2, 1) := by decide +kernel
theorem dL_bottled_3 : decode cL_bottled 3 = .ok (.invokevirtual 229, 3) := by decide +kernel
theorem dL_bottled_6 : decode cL_bottled 6 = .ok (.ireturn, 1) := by decide +kernel
theorem dL_bottled_7 : decode cL_bottled 7 = .ok (.astore_n 3, 1) := by decide +kernel
theorem dL_bottled_8 : decode cL_bottled 8 = .ok (.bipush (-99), 2) := by decide +kernel
theorem dL_bottled_10 : decode cL_bottled 10 = .ok (.ireturn, 1) := by decide +kernel
theorem dL_sold_0 : decode cL_sold 0 = .ok (.aload_n 0, 1) := by decide +kernel
theorem dL_sold_1 : decode cL_sold 1 = .ok (.iload_n 1, 1) := by decide +kernel
theorem dL_sold_2 : decode cL_sold 2 = .ok (.iload_n 2, 1) := by decide +kernel
theorem dL_sold_3 : decode cL_sold 3 = .ok (.iload_n 3, 1) := by decide +kernel
theorem dL_sold_4 : decode cL_sold 4 = .ok (.invokevirtual 232, 3) := by decide +kernel
theorem dL_sold_7 : decode cL_sold 7 = .ok (.ireturn, 1) := by decide +kernel
theorem dL_sold_8 : decode cL_sold 8 = .ok (.astore 4, 2) := by decide +kernel
theorem dL_sold_10 : decode cL_sold 10 = .ok (.bipush (-99), 2) := by decide +kernel
theorem dL_sold_12 : decode cL_sold 12 = .ok (.ireturn, 1) := by decide +kernel
theorem dL_paid_0 : decode cL_paid 0 = .ok (.aload_n 0, 1) := by decide +kernel
theorem dL_paid_1 : decode cL_paid 1 = .ok (.iload_n 1, 1) := by decide +kernel
theorem dL_paid_2 : decode cL_paid 2 = .ok (.invokevirtual 235, 3) := by decide +kernel
theorem dL_paid_5 : decode cL_paid 5 = .ok (.ireturn, 1) := by decide +kernel
theorem dL_paid_6 : decode cL_paid 6 = .ok (.astore_n 2, 1) := by decide +kernel
theorem dL_paid_7 : decode cL_paid 7 = .ok (.bipush (-99), 2) := by decide +kernel
theorem dL_paid_9 : decode cL_paid 9 = .ok (.ireturn, 1) := by decide +kernel
theorem dL_settled_0 : decode cL_settled 0 = .ok (.aload_n 0, 1) := by decide +kernel
theorem dL_settled_1 : decode cL_settled 1 = .ok (.iload_n 1, 1) := by decide +kernel
theorem dL_settled_2 : decode cL_settled 2 = .ok (.invokevirtual 238, 3) := by decide +kernel
theorem dL_settled_5 : decode cL_settled 5 = .ok (.ireturn, 1) := by decide +kernel
theorem dL_settled_6 : decode cL_settled 6 = .ok (.astore_n 2, 1) := by decide +kernel
theorem dL_settled_7 : decode cL_settled 7 = .ok (.bipush (-99), 2) := by decide +kernel
theorem dL_settled_9 : decode cL_settled 9 = .ok (.ireturn, 1) := by decide +kernel
theorem dL_pumped_0 : decode cL_pumped 0 = .ok (.aload_n 0, 1) := by decide +kernel
theorem dL_pumped_1 : decode cL_pumped 1 = .ok (.iload_n 1, 1) := by decide +kernel
theorem dL_pumped_2 : decode cL_pumped 2 = .ok (.iload_n 2, 1) := by decide +kernel
theorem dL_pumped_3 : decode cL_pumped 3 = .ok (.invokevirtual 241, 3) := by decide +kernel
theorem dL_pumped_6 : decode cL_pumped 6 = .ok (.ireturn, 1) := by decide +kernel
theorem dL_pumped_7 : decode cL_pumped 7 = .ok (.astore_n 3, 1) := by decide +kernel
theorem dL_pumped_8 : decode cL_pumped 8 = .ok (.bipush (-99), 2) := by decide +kernel
theorem dL_pumped_10 : decode cL_pumped 10 = .ok (.ireturn, 1) := by decide +kernel
theorem dL_weight_0 : decode cL_weight 0 = .ok (.iconst 1, 1) := by decide +kernel
theorem dL_weight_1 : decode cL_weight 1 = .ok (.aload_n 0, 1) := by decide +kernel
theorem dL_weight_2 : decode cL_weight 2 = .ok (.iload_n 1, 1) := by decide +kernel
theorem dL_weight_3 : decode cL_weight 3 = .ok (.iconst 2, 1) := by decide +kernel
theorem dL_weight_4 : decode cL_weight 4 = .ok (.iadd, 1) := by decide +kernel
theorem dL_weight_5 : decode cL_weight 5 = .ok (.sipush 700, 3) := by decide +kernel
theorem dL_weight_8 : decode cL_weight 8 = .ok (.invokestatic 40, 3) := by decide +kernel
theorem dL_weight_11 : decode cL_weight 11 = .ok (.iadd, 1) := by decide +kernel
theorem dL_weight_12 : decode cL_weight 12 = .ok (.ireturn, 1) := by decide +kernel
theorem dL_sugar_0 : decode cL_sugar 0 = .ok (.aload_n 0, 1) := by decide +kernel
theorem dL_sugar_1 : decode cL_sugar 1 = .ok (.iload_n 1, 1) := by decide +kernel
theorem dL_sugar_2 : decode cL_sugar 2 = .ok (.iconst 3, 1) := by decide +kernel
theorem dL_sugar_3 : decode cL_sugar 3 = .ok (.iadd, 1) := by decide +kernel
theorem dL_sugar_4 : decode cL_sugar 4 = .ok (.sipush 190, 3) := by decide +kernel
theorem dL_sugar_7 : decode cL_sugar 7 = .ok (.invokestatic 40, 3) := by decide +kernel
theorem dL_sugar_10 : decode cL_sugar 10 = .ok (.ireturn, 1) := by decide +kernel
theorem dL_act_0 : decode cL_act 0 = .ok (.aload_n 1, 1) := by decide +kernel
theorem dL_act_1 : decode cL_act 1 = .ok (.iload_n 2, 1) := by decide +kernel
theorem dL_act_2 : decode cL_act 2 = .ok (.iconst 1, 1) := by decide +kernel
theorem dL_act_3 : decode cL_act 3 = .ok (.iadd, 1) := by decide +kernel
theorem dL_act_4 : decode cL_act 4 = .ok (.ldc 244, 2) := by decide +kernel
theorem dL_act_6 : decode cL_act 6 = .ok (.invokestatic 40, 3) := by decide +kernel
theorem dL_act_9 : decode cL_act 9 = .ok (.istore_n 3, 1) := by decide +kernel
theorem dL_act_10 : decode cL_act 10 = .ok (.aload_n 1, 1) := by decide +kernel
theorem dL_act_11 : decode cL_act 11 = .ok (.iload_n 2, 1) := by decide +kernel
theorem dL_act_12 : decode cL_act 12 = .ok (.iconst 2, 1) := by decide +kernel
theorem dL_act_13 : decode cL_act 13 = .ok (.iadd, 1) := by decide +kernel
theorem dL_act_14 : decode cL_act 14 = .ok (.ldc 244, 2) := by decide +kernel
theorem dL_act_16 : decode cL_act 16 = .ok (.invokestatic 40, 3) := by decide +kernel
theorem dL_act_19 : decode cL_act 19 = .ok (.istore 4, 2) := by decide +kernel
theorem dL_act_21 : decode cL_act 21 = .ok (.aload_n 1, 1) := by decide +kernel
theorem dL_act_22 : decode cL_act 22 = .ok (.invokestatic 118, 3) := by decide +kernel
theorem dL_act_25 : decode cL_act 25 = .ok (.istore 5, 2) := by decide +kernel
theorem dL_act_27 : decode cL_act 27 = .ok (.aload_n 1, 1) := by decide +kernel
theorem dL_act_28 : decode cL_act 28 = .ok (.iload_n 2, 1) := by decide +kernel
theorem dL_act_29 : decode cL_act 29 = .ok (.bipush 20, 2) := by decide +kernel
theorem dL_act_31 : decode cL_act 31 = .ok (.invokestatic 40, 3) := by decide +kernel
theorem dL_act_34 : decode cL_act 34 = .ok (.istore 6, 2) := by decide +kernel
theorem dL_act_36 : decode cL_act 36 = .ok (.iload 6, 2) := by decide +kernel
theorem dL_act_38 : decode cL_act 38 = .ok (.bipush 9, 2) := by decide +kernel
theorem dL_act_40 : decode cL_act 40 = .ok (.if_icmp .ge 36, 3) := by decide +kernel
theorem dL_act_43 : decode cL_act 43 = .ok (.aload_n 0, 1) := by decide +kernel
theorem dL_act_44 : decode cL_act 44 = .ok (.invokevirtual 148, 3) := by decide +kernel
theorem dL_act_47 : decode cL_act 47 = .ok (.ifCond .ne 8, 3) := by decide +kernel
theorem dL_act_50 : decode cL_act 50 = .ok (.bipush (-99), 2) := by decide +kernel
theorem dL_act_52 : decode cL_act 52 = .ok (.goto 23, 3) := by decide +kernel
theorem dL_act_55 : decode cL_act 55 = .ok (.aload_n 0, 1) := by decide +kernel
theorem dL_act_56 : decode cL_act 56 = .ok (.iload_n 3, 1) := by decide +kernel
theorem dL_act_57 : decode cL_act 57 = .ok (.aload_n 0, 1) := by decide +kernel
theorem dL_act_58 : decode cL_act 58 = .ok (.invokevirtual 148, 3) := by decide +kernel
theorem dL_act_61 : decode cL_act 61 = .ok (.irem, 1) := by decide +kernel
theorem dL_act_62 : decode cL_act 62 = .ok (.aload_n 1, 1) := by decide +kernel
theorem dL_act_63 : decode cL_act 63 = .ok (.iload_n 2, 1) := by decide +kernel
theorem dL_act_64 : decode cL_act 64 = .ok (.invokestatic 245, 3) := by decide +kernel
theorem dL_act_67 : decode cL_act 67 = .ok (.aload_n 1, 1) := by decide +kernel
theorem dL_act_68 : decode cL_act 68 = .ok (.iload_n 2, 1) := by decide +kernel
theorem dL_act_69 : decode cL_act 69 = .ok (.invokestatic 248, 3) := by decide +kernel
theorem dL_act_72 : decode cL_act 72 = .ok (.invokestatic 251, 3) := by decide +kernel
theorem dL_act_75 : decode cL_act 75 = .ok (.ireturn, 1) := by decide +kernel
theorem dL_act_76 : decode cL_act 76 = .ok (.iload 6, 2) := by decide +kernel
theorem dL_act_78 : decode cL_act 78 = .ok (.bipush 9, 2) := by decide +kernel
theorem dL_act_80 : decode cL_act 80 = .ok (.if_icmp .ne 37, 3) := by decide +kernel
theorem dL_act_83 : decode cL_act 83 = .ok (.aload_n 0, 1) := by decide +kernel
theorem dL_act_84 : decode cL_act 84 = .ok (.invokevirtual 139, 3) := by decide +kernel
theorem dL_act_87 : decode cL_act 87 = .ok (.ifCond .ne 8, 3) := by decide +kernel
theorem dL_act_90 : decode cL_act 90 = .ok (.bipush (-99), 2) := by decide +kernel
theorem dL_act_92 : decode cL_act 92 = .ok (.goto 24, 3) := by decide +kernel
theorem dL_act_95 : decode cL_act 95 = .ok (.aload_n 0, 1) := by decide +kernel
theorem dL_act_96 : decode cL_act 96 = .ok (.iload_n 3, 1) := by decide +kernel
theorem dL_act_97 : decode cL_act 97 = .ok (.aload_n 0, 1) := by decide +kernel
theorem dL_act_98 : decode cL_act 98 = .ok (.invokevirtual 139, 3) := by decide +kernel
theorem dL_act_101 : decode cL_act 101 = .ok (.irem, 1) := by decide +kernel
theorem dL_act_102 : decode cL_act 102 = .ok (.iload 4, 2) := by decide +kernel
theorem dL_act_104 : decode cL_act 104 = .ok (.aload_n 0, 1) := by decide +kernel
theorem dL_act_105 : decode cL_act 105 = .ok (.invokevirtual 142, 3) := by decide +kernel
theorem dL_act_108 : decode cL_act 108 = .ok (.irem, 1) := by decide +kernel
theorem dL_act_109 : decode cL_act 109 = .ok (.iload_n 3, 1) := by decide +kernel
theorem dL_act_110 : decode cL_act 110 = .ok (.bipush 40, 2) := by decide +kernel
theorem dL_act_112 : decode cL_act 112 = .ok (.irem, 1) := by decide +kernel
theorem dL_act_113 : decode cL_act 113 = .ok (.invokevirtual 255, 3) := by decide +kernel
theorem dL_act_116 : decode cL_act 116 = .ok (.ireturn, 1) := by decide +kernel
theorem dL_act_117 : decode cL_act 117 = .ok (.iload 6, 2) := by decide +kernel
theorem dL_act_119 : decode cL_act 119 = .ok (.bipush 13, 2) := by decide +kernel
theorem dL_act_121 : decode cL_act 121 = .ok (.if_icmp .ge 30, 3) := by decide +kernel
theorem dL_act_124 : decode cL_act 124 = .ok (.iload 5, 2) := by decide +kernel
theorem dL_act_126 : decode cL_act 126 = .ok (.ifCond .ne 8, 3) := by decide +kernel
theorem dL_act_129 : decode cL_act 129 = .ok (.bipush (-99), 2) := by decide +kernel
theorem dL_act_131 : decode cL_act 131 = .ok (.goto 19, 3) := by decide +kernel
theorem dL_act_134 : decode cL_act 134 = .ok (.aload_n 0, 1) := by decide +kernel
theorem dL_act_135 : decode cL_act 135 = .ok (.iload_n 3, 1) := by decide +kernel
theorem dL_act_136 : decode cL_act 136 = .ok (.iload 5, 2) := by decide +kernel
theorem dL_act_138 : decode cL_act 138 = .ok (.irem, 1) := by decide +kernel
theorem dL_act_139 : decode cL_act 139 = .ok (.iconst 1, 1) := by decide +kernel
theorem dL_act_140 : decode cL_act 140 = .ok (.iload 4, 2) := by decide +kernel
theorem dL_act_142 : decode cL_act 142 = .ok (.sipush 400, 3) := by decide +kernel
theorem dL_act_145 : decode cL_act 145 = .ok (.irem, 1) := by decide +kernel
theorem dL_act_146 : decode cL_act 146 = .ok (.iadd, 1) := by decide +kernel
theorem dL_act_147 : decode cL_act 147 = .ok (.invokestatic 258, 3) := by decide +kernel
theorem dL_act_150 : decode cL_act 150 = .ok (.ireturn, 1) := by decide +kernel
theorem dL_act_151 : decode cL_act 151 = .ok (.iload 6, 2) := by decide +kernel
theorem dL_act_153 : decode cL_act 153 = .ok (.bipush 15, 2) := by decide +kernel
theorem dL_act_155 : decode cL_act 155 = .ok (.if_icmp .ge 40, 3) := by decide +kernel
theorem dL_act_158 : decode cL_act 158 = .ok (.aload_n 0, 1) := by decide +kernel
theorem dL_act_159 : decode cL_act 159 = .ok (.invokevirtual 154, 3) := by decide +kernel
theorem dL_act_162 : decode cL_act 162 = .ok (.ifCond .ne 8, 3) := by decide +kernel
theorem dL_act_165 : decode cL_act 165 = .ok (.bipush (-99), 2) := by decide +kernel
theorem dL_act_167 : decode cL_act 167 = .ok (.goto 27, 3) := by decide +kernel
theorem dL_act_170 : decode cL_act 170 = .ok (.aload_n 0, 1) := by decide +kernel
theorem dL_act_171 : decode cL_act 171 = .ok (.iload_n 3, 1) := by decide +kernel
theorem dL_act_172 : decode cL_act 172 = .ok (.aload_n 0, 1) := by decide +kernel
theorem dL_act_173 : decode cL_act 173 = .ok (.invokevirtual 154, 3) := by decide +kernel
theorem dL_act_176 : decode cL_act 176 = .ok (.irem, 1) := by decide +kernel
theorem dL_act_177 : decode cL_act 177 = .ok (.iconst 1, 1) := by decide +kernel
theorem dL_act_178 : decode cL_act 178 = .ok (.iload 4, 2) := by decide +kernel
theorem dL_act_180 : decode cL_act 180 = .ok (.bipush 90, 2) := by decide +kernel
theorem dL_act_182 : decode cL_act 182 = .ok (.irem, 1) := by decide +kernel
theorem dL_act_183 : decode cL_act 183 = .ok (.iadd, 1) := by decide +kernel
theorem dL_act_184 : decode cL_act 184 = .ok (.iconst 1, 1) := by decide +kernel
theorem dL_act_185 : decode cL_act 185 = .ok (.iload_n 3, 1) := by decide +kernel
theorem dL_act_186 : decode cL_act 186 = .ok (.sipush 300, 3) := by decide +kernel
theorem dL_act_189 : decode cL_act 189 = .ok (.irem, 1) := by decide +kernel
theorem dL_act_190 : decode cL_act 190 = .ok (.iadd, 1) := by decide +kernel
theorem dL_act_191 : decode cL_act 191 = .ok (.invokestatic 262, 3) := by decide +kernel
theorem dL_act_194 : decode cL_act 194 = .ok (.ireturn, 1) := by decide +kernel
theorem dL_act_195 : decode cL_act 195 = .ok (.iload 6, 2) := by decide +kernel
theorem dL_act_197 : decode cL_act 197 = .ok (.bipush 15, 2) := by decide +kernel
theorem dL_act_199 : decode cL_act 199 = .ok (.if_icmp .ne 26, 3) := by decide +kernel
theorem dL_act_202 : decode cL_act 202 = .ok (.aload_n 0, 1) := by decide +kernel
theorem dL_act_203 : decode cL_act 203 = .ok (.invokevirtual 151, 3) := by decide +kernel
theorem dL_act_206 : decode cL_act 206 = .ok (.ifCond .ne 8, 3) := by decide +kernel
theorem dL_act_209 : decode cL_act 209 = .ok (.bipush (-99), 2) := by decide +kernel
theorem dL_act_211 : decode cL_act 211 = .ok (.goto 13, 3) := by decide +kernel
theorem dL_act_214 : decode cL_act 214 = .ok (.aload_n 0, 1) := by decide +kernel
theorem dL_act_215 : decode cL_act 215 = .ok (.iload_n 3, 1) := by decide +kernel
theorem dL_act_216 : decode cL_act 216 = .ok (.aload_n 0, 1) := by decide +kernel
theorem dL_act_217 : decode cL_act 217 = .ok (.invokevirtual 151, 3) := by decide +kernel
theorem dL_act_220 : decode cL_act 220 = .ok (.irem, 1) := by decide +kernel
theorem dL_act_221 : decode cL_act 221 = .ok (.invokestatic 265, 3) := by decide +kernel
theorem dL_act_224 : decode cL_act 224 = .ok (.ireturn, 1) := by decide +kernel
theorem dL_act_225 : decode cL_act 225 = .ok (.iload 6, 2) := by decide +kernel
theorem dL_act_227 : decode cL_act 227 = .ok (.bipush 18, 2) := by decide +kernel
theorem dL_act_229 : decode cL_act 229 = .ok (.if_icmp .ge 26, 3) := by decide +kernel
theorem dL_act_232 : decode cL_act 232 = .ok (.aload_n 0, 1) := by decide +kernel
theorem dL_act_233 : decode cL_act 233 = .ok (.invokevirtual 145, 3) := by decide +kernel
theorem dL_act_236 : decode cL_act 236 = .ok (.ifCond .ne 8, 3) := by decide +kernel
theorem dL_act_239 : decode cL_act 239 = .ok (.bipush (-99), 2) := by decide +kernel
theorem dL_act_241 : decode cL_act 241 = .ok (.goto 13, 3) := by decide +kernel
theorem dL_act_244 : decode cL_act 244 = .ok (.aload_n 0, 1) := by decide +kernel
theorem dL_act_245 : decode cL_act 245 = .ok (.iload_n 3, 1) := by decide +kernel
theorem dL_act_246 : decode cL_act 246 = .ok (.aload_n 0, 1) := by decide +kernel
theorem dL_act_247 : decode cL_act 247 = .ok (.invokevirtual 145, 3) := by decide +kernel
theorem dL_act_250 : decode cL_act 250 = .ok (.irem, 1) := by decide +kernel
theorem dL_act_251 : decode cL_act 251 = .ok (.invokestatic 269, 3) := by decide +kernel
theorem dL_act_254 : decode cL_act 254 = .ok (.ireturn, 1) := by decide +kernel
theorem dL_act_255 : decode cL_act 255 = .ok (.iload 5, 2) := by decide +kernel
theorem dL_act_257 : decode cL_act 257 = .ok (.iconst 2, 1) := by decide +kernel
theorem dL_act_258 : decode cL_act 258 = .ok (.if_icmp .ge 8, 3) := by decide +kernel
theorem dL_act_261 : decode cL_act 261 = .ok (.bipush (-99), 2) := by decide +kernel
theorem dL_act_263 : decode cL_act 263 = .ok (.goto 28, 3) := by decide +kernel
theorem dL_act_266 : decode cL_act 266 = .ok (.aload_n 0, 1) := by decide +kernel
theorem dL_act_267 : decode cL_act 267 = .ok (.iload_n 3, 1) := by decide +kernel
theorem dL_act_268 : decode cL_act 268 = .ok (.iload 5, 2) := by decide +kernel
theorem dL_act_270 : decode cL_act 270 = .ok (.irem, 1) := by decide +kernel
theorem dL_act_271 : decode cL_act 271 = .ok (.iload_n 3, 1) := by decide +kernel
theorem dL_act_272 : decode cL_act 272 = .ok (.iload 5, 2) := by decide +kernel
theorem dL_act_274 : decode cL_act 274 = .ok (.irem, 1) := by decide +kernel
theorem dL_act_275 : decode cL_act 275 = .ok (.iconst 1, 1) := by decide +kernel
theorem dL_act_276 : decode cL_act 276 = .ok (.iadd, 1) := by decide +kernel
theorem dL_act_277 : decode cL_act 277 = .ok (.iload 4, 2) := by decide +kernel
theorem dL_act_279 : decode cL_act 279 = .ok (.iload 5, 2) := by decide +kernel
theorem dL_act_281 : decode cL_act 281 = .ok (.iconst 1, 1) := by decide +kernel
theorem dL_act_282 : decode cL_act 282 = .ok (.isub, 1) := by decide +kernel
theorem dL_act_283 : decode cL_act 283 = .ok (.irem, 1) := by decide +kernel
theorem dL_act_284 : decode cL_act 284 = .ok (.iadd, 1) := by decide +kernel
theorem dL_act_285 : decode cL_act 285 = .ok (.iload 5, 2) := by decide +kernel
theorem dL_act_287 : decode cL_act 287 = .ok (.irem, 1) := by decide +kernel
theorem dL_act_288 : decode cL_act 288 = .ok (.invokestatic 272, 3) := by decide +kernel
theorem dL_act_291 : decode cL_act 291 = .ok (.ireturn, 1) := by decide +kernel
theorem dL_holds_0 : decode cL_holds 0 = .ok (.aload_n 0, 1) := by decide +kernel
theorem dL_holds_1 : decode cL_holds 1 = .ok (.invokevirtual 275, 3) := by decide +kernel
theorem dL_holds_4 : decode cL_holds 4 = .ok (.ifCond .ne 17, 3) := by decide +kernel
theorem dL_holds_7 : decode cL_holds 7 = .ok (.aload_n 0, 1) := by decide +kernel
theorem dL_holds_8 : decode cL_holds 8 = .ok (.invokevirtual 278, 3) := by decide +kernel
theorem dL_holds_11 : decode cL_holds 11 = .ok (.ifCond .ne 10, 3) := by decide +kernel
theorem dL_holds_14 : decode cL_holds 14 = .ok (.aload_n 0, 1) := by decide +kernel
theorem dL_holds_15 : decode cL_holds 15 = .ok (.invokevirtual 157, 3) := by decide +kernel
theorem dL_holds_18 : decode cL_holds 18 = .ok (.ifCond .ge 5, 3) := by decide +kernel
theorem dL_holds_21 : decode cL_holds 21 = .ok (.iconst 0, 1) := by decide +kernel
theorem dL_holds_22 : decode cL_holds 22 = .ok (.ireturn, 1) := by decide +kernel
theorem dL_holds_23 : decode cL_holds 23 = .ok (.aload_n 0, 1) := by decide +kernel
theorem dL_holds_24 : decode cL_holds 24 = .ok (.invokevirtual 151, 3) := by decide +kernel
theorem dL_holds_27 : decode cL_holds 27 = .ok (.istore 4, 2) := by decide +kernel
theorem dL_holds_29 : decode cL_holds 29 = .ok (.aload_n 0, 1) := by decide +kernel
theorem dL_holds_30 : decode cL_holds 30 = .ok (.invokevirtual 145, 3) := by decide +kernel
theorem dL_holds_33 : decode cL_holds 33 = .ok (.istore 5, 2) := by decide +kernel
theorem dL_holds_35 : decode cL_holds 35 = .ok (.bipush 9, 2) := by decide +kernel
theorem dL_holds_37 : decode cL_holds 37 = .ok (.newarray .int, 2) := by decide +kernel
theorem dL_holds_39 : decode cL_holds 39 = .ok (.astore 6, 2) := by decide +kernel
theorem dL_holds_41 : decode cL_holds 41 = .ok (.iconst 5, 1) := by decide +kernel
