theorem dX12_thrown_0 : decode cX12_thrown 0 = .ok (.aload_n 0, 1) := by decide +kernel
theorem dX12_thrown_1 : decode cX12_thrown 1 = .ok (.getfield 3, 3) := by decide +kernel
theorem dX12_thrown_4 : decode cX12_thrown 4 = .ok (.ireturn, 1) := by decide +kernel
theorem dX12_in_0 : decode cX12_in 0 = .ok (.lload_n 0, 1) := by decide +kernel
theorem dX12_in_1 : decode cX12_in 1 = .ok (.lload_n 2, 1) := by decide +kernel
theorem dX12_in_2 : decode cX12_in 2 = .ok (.lcmp, 1) := by decide +kernel
theorem dX12_in_3 : decode cX12_in 3 = .ok (.ifCond .lt 14, 3) := by decide +kernel
theorem dX12_in_6 : decode cX12_in 6 = .ok (.lload_n 0, 1) := by decide +kernel
theorem dX12_in_7 : decode cX12_in 7 = .ok (.lload 4, 2) := by decide +kernel
theorem dX12_in_9 : decode cX12_in 9 = .ok (.lcmp, 1) := by decide +kernel
theorem dX12_in_10 : decode cX12_in 10 = .ok (.ifCond .gt 7, 3) := by decide +kernel
theorem dX12_in_13 : decode cX12_in 13 = .ok (.iconst 1, 1) := by decide +kernel
theorem dX12_in_14 : decode cX12_in 14 = .ok (.goto 4, 3) := by decide +kernel
theorem dX12_in_17 : decode cX12_in 17 = .ok (.iconst 0, 1) := by decide +kernel
theorem dX12_in_18 : decode cX12_in 18 = .ok (.ireturn, 1) := by decide +kernel
theorem dX12_passes3_0 : decode cX12_passes3 0 = .ok (.aload_n 0, 1) := by decide +kernel
theorem dX12_passes3_1 : decode cX12_passes3 1 = .ok (.iload_n 1, 1) := by decide +kernel
theorem dX12_passes3_2 : decode cX12_passes3 2 = .ok (.ifCond .ne 7, 3) := by decide +kernel
theorem dX12_passes3_5 : decode cX12_passes3 5 = .ok (.iconst 1, 1) := by decide +kernel
theorem dX12_passes3_6 : decode cX12_passes3 6 = .ok (.goto 20, 3) := by decide +kernel
theorem dX12_passes3_9 : decode cX12_passes3 9 = .ok (.iload_n 2, 1) := by decide +kernel
theorem dX12_passes3_10 : decode cX12_passes3 10 = .ok (.ifCond .ne 7, 3) := by decide +kernel
theorem dX12_passes3_13 : decode cX12_passes3 13 = .ok (.iconst 2, 1) := by decide +kernel
theorem dX12_passes3_14 : decode cX12_passes3 14 = .ok (.goto 12, 3) := by decide +kernel
theorem dX12_passes3_17 : decode cX12_passes3 17 = .ok (.iload_n 3, 1) := by decide +kernel
theorem dX12_passes3_18 : decode cX12_passes3 18 = .ok (.ifCond .ne 7, 3) := by decide +kernel
theorem dX12_passes3_21 : decode cX12_passes3 21 = .ok (.iconst 3, 1) := by decide +kernel
theorem dX12_passes3_22 : decode cX12_passes3 22 = .ok (.goto 4, 3) := by decide +kernel
theorem dX12_passes3_25 : decode cX12_passes3 25 = .ok (.iconst 0, 1) := by decide +kernel
theorem dX12_passes3_26 : decode cX12_passes3 26 = .ok (.putfield 3, 3) := by decide +kernel
theorem dX12_passes3_29 : decode cX12_passes3 29 = .ok (.aload_n 0, 1) := by decide +kernel
theorem dX12_passes3_30 : decode cX12_passes3 30 = .ok (.getfield 3, 3) := by decide +kernel
theorem dX12_passes3_33 : decode cX12_passes3 33 = .ok (.ifCond .ne 7, 3) := by decide +kernel
theorem dX12_passes3_36 : decode cX12_passes3 36 = .ok (.iconst 1, 1) := by decide +kernel
theorem dX12_passes3_37 : decode cX12_passes3 37 = .ok (.goto 4, 3) := by decide +kernel
theorem dX12_passes3_40 : decode cX12_passes3 40 = .ok (.iconst 0, 1) := by decide +kernel
theorem dX12_passes3_41 : decode cX12_passes3 41 = .ok (.ireturn, 1) := by decide +kernel
theorem dX12_passes2_0 : decode cX12_passes2 0 = .ok (.aload_n 0, 1) := by decide +kernel
theorem dX12_passes2_1 : decode cX12_passes2 1 = .ok (.iload_n 1, 1) := by decide +kernel
theorem dX12_passes2_2 : decode cX12_passes2 2 = .ok (.iload_n 2, 1) := by decide +kernel
theorem dX12_passes2_3 : decode cX12_passes2 3 = .ok (.iconst 1, 1) := by decide +kernel
theorem dX12_passes2_4 : decode cX12_passes2 4 = .ok (.invokevirtual 7, 3) := by decide +kernel
theorem dX12_passes2_7 : decode cX12_passes2 7 = .ok (.ireturn, 1) := by decide +kernel
theorem dX12_passes1_0 : decode cX12_passes1 0 = .ok (.aload_n 0, 1) := by decide +kernel
theorem dX12_passes1_1 : decode cX12_passes1 1 = .ok (.iload_n 1, 1) := by decide +kernel
theorem dX12_passes1_2 : decode cX12_passes1 2 = .ok (.iconst 1, 1) := by decide +kernel
theorem dX12_passes1_3 : decode cX12_passes1 3 = .ok (.iconst 1, 1) := by decide +kernel
theorem dX12_passes1_4 : decode cX12_passes1 4 = .ok (.invokevirtual 7, 3) := by decide +kernel
theorem dX12_passes1_7 : decode cX12_passes1 7 = .ok (.ireturn, 1) := by decide +kernel
theorem dX12_init_0 : decode cX12_init 0 = .ok (.aload_n 0, 1) := by decide +kernel
theorem dX12_init_1 : decode cX12_init 1 = .ok (.invokespecial 11, 3) := by decide +kernel
theorem dX12_init_4 : decode cX12_init 4 = .ok (.aload_n 0, 1) := by decide +kernel
theorem dX12_init_5 : decode cX12_init 5 = .ok (.sipush 264, 3) := by decide +kernel
theorem dX12_init_8 : decode cX12_init 8 = .ok (.newarray .int, 2) := by decide +kernel
theorem dX12_init_10 : decode cX12_init 10 = .ok (.putfield 17, 3) := by decide +kernel
theorem dX12_init_13 : decode cX12_init 13 = .ok (.aload_n 0, 1) := by decide +kernel
theorem dX12_init_14 : decode cX12_init 14 = .ok (.sipush 264, 3) := by decide +kernel
theorem dX12_init_17 : decode cX12_init 17 = .ok (.newarray .int, 2) := by decide +kernel
theorem dX12_init_19 : decode cX12_init 19 = .ok (.putfield 21, 3) := by decide +kernel
theorem dX12_init_22 : decode cX12_init 22 = .ok (.aload_n 0, 1) := by decide +kernel
theorem dX12_init_23 : decode cX12_init 23 = .ok (.aload_n 0, 1) := by decide +kernel
theorem dX12_init_24 : decode cX12_init 24 = .ok (.getfield 17, 3) := by decide +kernel
theorem dX12_init_27 : decode cX12_init 27 = .ok (.putfield 24, 3) := by decide +kernel
theorem dX12_init_30 : decode cX12_init 30 = .ok (.aload_n 0, 1) := by decide +kernel
theorem dX12_init_31 : decode cX12_init 31 = .ok (.sipush 600, 3) := by decide +kernel
theorem dX12_init_34 : decode cX12_init 34 = .ok (.newarray .byte, 2) := by decide +kernel
theorem dX12_init_36 : decode cX12_init 36 = .ok (.putfield 27, 3) := by decide +kernel
theorem dX12_init_39 : decode cX12_init 39 = .ok (.aload_n 0, 1) := by decide +kernel
theorem dX12_init_40 : decode cX12_init 40 = .ok (.ldc 31, 2) := by decide +kernel
theorem dX12_init_42 : decode cX12_init 42 = .ok (.invokestatic 33, 3) := by decide +kernel
theorem dX12_init_45 : decode cX12_init 45 = .ok (.putfield 37, 3) := by decide +kernel
theorem dX12_init_48 : decode cX12_init 48 = .ok (.aload_n 0, 1) := by decide +kernel
theorem dX12_init_49 : decode cX12_init 49 = .ok (.ldc 41, 2) := by decide +kernel
theorem dX12_init_51 : decode cX12_init 51 = .ok (.invokestatic 33, 3) := by decide +kernel
theorem dX12_init_54 : decode cX12_init 54 = .ok (.putfield 43, 3) := by decide +kernel
theorem dX12_init_57 : decode cX12_init 57 = .ok (.aload_n 0, 1) := by decide +kernel
theorem dX12_init_58 : decode cX12_init 58 = .ok (.ldc 46, 2) := by decide +kernel
theorem dX12_init_60 : decode cX12_init 60 = .ok (.invokestatic 33, 3) := by decide +kernel
theorem dX12_init_63 : decode cX12_init 63 = .ok (.putfield 48, 3) := by decide +kernel
theorem dX12_init_66 : decode cX12_init 66 = .ok (.aload_n 0, 1) := by decide +kernel
theorem dX12_init_67 : decode cX12_init 67 = .ok (.ldc 51, 2) := by decide +kernel
theorem dX12_init_69 : decode cX12_init 69 = .ok (.invokestatic 33, 3) := by decide +kernel
theorem dX12_init_72 : decode cX12_init 72 = .ok (.putfield 53, 3) := by decide +kernel
theorem dX12_init_75 : decode cX12_init 75 = .ok (.aload_n 0, 1) := by decide +kernel
theorem dX12_init_76 : decode cX12_init 76 = .ok (.ldc 56, 2) := by decide +kernel
theorem dX12_init_78 : decode cX12_init 78 = .ok (.invokestatic 33, 3) := by decide +kernel
theorem dX12_init_81 : decode cX12_init 81 = .ok (.putfield 58, 3) := by decide +kernel
theorem dX12_init_84 : decode cX12_init 84 = .ok (.aload_n 0, 1) := by decide +kernel
theorem dX12_init_85 : decode cX12_init 85 = .ok (.ldc 61, 2) := by decide +kernel
theorem dX12_init_87 : decode cX12_init 87 = .ok (.invokestatic 33, 3) := by decide +kernel
theorem dX12_init_90 : decode cX12_init 90 = .ok (.putfield 63, 3) := by decide +kernel
theorem dX12_init_93 : decode cX12_init 93 = .ok (.aload_n 0, 1) := by decide +kernel
theorem dX12_init_94 : decode cX12_init 94 = .ok (.ldc 66, 2) := by decide +kernel
theorem dX12_init_96 : decode cX12_init 96 = .ok (.invokestatic 33, 3) := by decide +kernel
theorem dX12_init_99 : decode cX12_init 99 = .ok (.putfield 68, 3) := by decide +kernel
theorem dX12_init_102 : decode cX12_init 102 = .ok (.aload_n 0, 1) := by decide +kernel
theorem dX12_init_103 : decode cX12_init 103 = .ok (.ldc 71, 2) := by decide +kernel
theorem dX12_init_105 : decode cX12_init 105 = .ok (.invokestatic 33, 3) := by decide +kernel
theorem dX12_init_108 : decode cX12_init 108 = .ok (.putfield 73, 3) := by decide +kernel
theorem dX12_init_111 : decode cX12_init 111 = .ok (.aload_n 0, 1) := by decide +kernel
theorem dX12_init_112 : decode cX12_init 112 = .ok (.ldc 76, 2) := by decide +kernel
theorem dX12_init_114 : decode cX12_init 114 = .ok (.invokestatic 33, 3) := by decide +kernel
theorem dX12_init_117 : decode cX12_init 117 = .ok (.putfield 78, 3) := by decide +kernel
theorem dX12_init_120 : decode cX12_init 120 = .ok (.aload_n 0, 1) := by decide +kernel
theorem dX12_init_121 : decode cX12_init 121 = .ok (.ldc 81, 2) := by decide +kernel
theorem dX12_init_123 : decode cX12_init 123 = .ok (.invokestatic 33, 3) := by decide +kernel
theorem dX12_init_126 : decode cX12_init 126 = .ok (.putfield 83, 3) := by decide +kernel
theorem dX12_init_129 : decode cX12_init 129 = .ok (.aload_n 0, 1) := by decide +kernel
theorem dX12_init_130 : decode cX12_init 130 = .ok (.ldc 86, 2) := by decide +kernel
theorem dX12_init_132 : decode cX12_init 132 = .ok (.invokestatic 33, 3) := by decide +kernel
theorem dX12_init_135 : decode cX12_init 135 = .ok (.putfield 88, 3) := by decide +kernel
theorem dX12_init_138 : decode cX12_init 138 = .ok (.aload_n 0, 1) := by decide +kernel
theorem dX12_init_139 : decode cX12_init 139 = .ok (.ldc 91, 2) := by decide +kernel
theorem dX12_init_141 : decode cX12_init 141 = .ok (.invokestatic 33, 3) := by decide +kernel
theorem dX12_init_144 : decode cX12_init 144 = .ok (.putfield 93, 3) := by decide +kernel
theorem dX12_init_147 : decode cX12_init 147 = .ok (.aload_n 0, 1) := by decide +kernel
theorem dX12_init_148 : decode cX12_init 148 = .ok (.sipush 1584, 3) := by decide +kernel
theorem dX12_init_151 : decode cX12_init 151 = .ok (.newarray .int, 2) := by decide +kernel
theorem dX12_init_153 : decode cX12_init 153 = .ok (.putfield 96, 3) := by decide +kernel
theorem dX12_init_156 : decode cX12_init 156 = .ok (.aload_n 0, 1) := by decide +kernel
theorem dX12_init_157 : decode cX12_init 157 = .ok (.sipush 528, 3) := by decide +kernel
theorem dX12_init_160 : decode cX12_init 160 = .ok (.newarray .int, 2) := by decide +kernel
theorem dX12_init_162 : decode cX12_init 162 = .ok (.putfield 99, 3) := by decide +kernel
theorem dX12_init_165 : decode cX12_init 165 = .ok (.aload_n 0, 1) := by decide +kernel
theorem dX12_init_166 : decode cX12_init 166 = .ok (.iconst (-1), 1) := by decide +kernel
theorem dX12_init_167 : decode cX12_init 167 = .ok (.putfield 102, 3) := by decide +kernel
theorem dX12_init_170 : decode cX12_init 170 = .ok (.aload_n 0, 1) := by decide +kernel
theorem dX12_init_171 : decode cX12_init 171 = .ok (.sipush 200, 3) := by decide +kernel
theorem dX12_init_174 : decode cX12_init 174 = .ok (.newarray .int, 2) := by decide +kernel
theorem dX12_init_176 : decode cX12_init 176 = .ok (.putfield 105, 3) := by decide +kernel
theorem dX12_init_179 : decode cX12_init 179 = .ok (.aload_n 0, 1) := by decide +kernel
theorem dX12_init_180 : decode cX12_init 180 = .ok (.invokevirtual 108, 3) := by decide +kernel
theorem dX12_init_183 : decode cX12_init 183 = .ok (.return_, 1) := by decide +kernel
theorem dX12_layFirst_0 : decode cX12_layFirst 0 = .ok (.aload_n 0, 1) := by decide +kernel
theorem dX12_layFirst_1 : decode cX12_layFirst 1 = .ok (.getfield 24, 3) := by decide +kernel
theorem dX12_layFirst_4 : decode cX12_layFirst 4 = .ok (.iconst 0, 1) := by decide +kernel
theorem dX12_layFirst_5 : decode cX12_layFirst 5 = .ok (.bipush 30, 2) := by decide +kernel
theorem dX12_layFirst_7 : decode cX12_layFirst 7 = .ok (.iastore, 1) := by decide +kernel
theorem dX12_layFirst_8 : decode cX12_layFirst 8 = .ok (.aload_n 0, 1) := by decide +kernel
theorem dX12_layFirst_9 : decode cX12_layFirst 9 = .ok (.getfield 24, 3) := by decide +kernel
theorem dX12_layFirst_12 : decode cX12_layFirst 12 = .ok (.iconst 1, 1) := by decide +kernel
theorem dX12_layFirst_13 : decode cX12_layFirst 13 = .ok (.sipush 5000, 3) := by decide +kernel
theorem dX12_layFirst_16 : decode cX12_layFirst 16 = .ok (.iastore, 1) := by decide +kernel
theorem dX12_layFirst_17 : decode cX12_layFirst 17 = .ok (.aload_n 0, 1) := by decide +kernel
theorem dX12_layFirst_18 : decode cX12_layFirst 18 = .ok (.getfield 24, 3) := by decide +kernel
theorem dX12_layFirst_21 : decode cX12_layFirst 21 = .ok (.iconst 2, 1) := by decide +kernel
theorem dX12_layFirst_22 : decode cX12_layFirst 22 = .ok (.sipush 5000, 3) := by decide +kernel
theorem dX12_layFirst_25 : decode cX12_layFirst 25 = .ok (.iastore, 1) := by decide +kernel
theorem dX12_layFirst_26 : decode cX12_layFirst 26 = .ok (.aload_n 0, 1) := by decide +kernel
theorem dX12_layFirst_27 : decode cX12_layFirst 27 = .ok (.getfield 24, 3) := by decide +kernel
theorem dX12_layFirst_30 : decode cX12_layFirst 30 = .ok (.iconst 3, 1) := by decide +kernel
theorem dX12_layFirst_31 : decode cX12_layFirst 31 = .ok (.iconst 3, 1) := by decide +kernel
theorem dX12_layFirst_32 : decode cX12_layFirst 32 = .ok (.iastore, 1) := by decide +kernel
theorem dX12_layFirst_33 : decode cX12_layFirst 33 = .ok (.aload_n 0, 1) := by decide +kernel
theorem dX12_layFirst_34 : decode cX12_layFirst 34 = .ok (.getfield 24, 3) := by decide +kernel
theorem dX12_layFirst_37 : decode cX12_layFirst 37 = .ok (.bipush 12, 2) := by decide +kernel
theorem dX12_layFirst_39 : decode cX12_layFirst 39 = .ok (.bipush 90, 2) := by decide +kernel
theorem dX12_layFirst_41 : decode cX12_layFirst 41 = .ok (.iastore, 1) := by decide +kernel
theorem dX12_layFirst_42 : decode cX12_layFirst 42 = .ok (.aload_n 0, 1) := by decide +kernel
theorem dX12_layFirst_43 : decode cX12_layFirst 43 = .ok (.getfield 24, 3) := by decide +kernel
theorem dX12_layFirst_46 : decode cX12_layFirst 46 = .ok (.bipush 13, 2) := by decide +kernel
theorem dX12_layFirst_48 : decode cX12_layFirst 48 = .ok (.bipush 75, 2) := by decide +kernel
theorem dX12_layFirst_50 : decode cX12_layFirst 50 = .ok (.iastore, 1) := by decide +kernel
theorem dX12_layFirst_51 : decode cX12_layFirst 51 = .ok (.aload_n 0, 1) := by decide +kernel
theorem dX12_layFirst_52 : decode cX12_layFirst 52 = .ok (.getfield 24, 3) := by decide +kernel
theorem dX12_layFirst_55 : decode cX12_layFirst 55 = .ok (.bipush 14, 2) := by decide +kernel
theorem dX12_layFirst_57 : decode cX12_layFirst 57 = .ok (.bipush 60, 2) := by decide +kernel
theorem dX12_layFirst_59 : decode cX12_layFirst 59 = .ok (.iastore, 1) := by decide +kernel
theorem dX12_layFirst_60 : decode cX12_layFirst 60 = .ok (.aload_n 0, 1) := by decide +kernel
theorem dX12_layFirst_61 : decode cX12_layFirst 61 = .ok (.ldc 111, 2) := by decide +kernel
theorem dX12_layFirst_63 : decode cX12_layFirst 63 = .ok (.invokestatic 33, 3) := by decide +kernel
theorem dX12_layFirst_66 : decode cX12_layFirst 66 = .ok (.l2i, 1) := by decide +kernel
theorem dX12_layFirst_67 : decode cX12_layFirst 67 = .ok (.iconst 3, 1) := by decide +kernel
theorem dX12_layFirst_68 : decode cX12_layFirst 68 = .ok (.invokevirtual 113, 3) := by decide +kernel
theorem dX12_layFirst_71 : decode cX12_layFirst 71 = .ok (.aload_n 0, 1) := by decide +kernel
theorem dX12_layFirst_72 : decode cX12_layFirst 72 = .ok (.ldc 117, 2) := by decide +kernel
theorem dX12_layFirst_74 : decode cX12_layFirst 74 = .ok (.invokestatic 33, 3) := by decide +kernel
theorem dX12_layFirst_77 : decode cX12_layFirst 77 = .ok (.l2i, 1) := by decide +kernel
theorem dX12_layFirst_78 : decode cX12_layFirst 78 = .ok (.iconst 4, 1) := by decide +kernel
theorem dX12_layFirst_79 : decode cX12_layFirst 79 = .ok (.invokevirtual 113, 3) := by decide +kernel
theorem dX12_layFirst_82 : decode cX12_layFirst 82 = .ok (.aload_n 0, 1) := by decide +kernel
theorem dX12_layFirst_83 : decode cX12_layFirst 83 = .ok (.iconst 0, 1) := by decide +kernel
theorem dX12_layFirst_84 : decode cX12_layFirst 84 = .ok (.iconst 0, 1) := by decide +kernel
theorem dX12_layFirst_85 : decode cX12_layFirst 85 = .ok (.bipush 12, 2) := by decide +kernel
theorem dX12_layFirst_87 : decode cX12_layFirst 87 = .ok (.invokevirtual 119, 3) := by decide +kernel
theorem dX12_layFirst_90 : decode cX12_layFirst 90 = .ok (.aload_n 0, 1) := by decide +kernel
theorem dX12_layFirst_91 : decode cX12_layFirst 91 = .ok (.iconst 0, 1) := by decide +kernel
theorem dX12_layFirst_92 : decode cX12_layFirst 92 = .ok (.iconst 1, 1) := by decide +kernel
theorem dX12_layFirst_93 : decode cX12_layFirst 93 = .ok (.bipush 9, 2) := by decide +kernel
theorem dX12_layFirst_95 : decode cX12_layFirst 95 = .ok (.invokevirtual 119, 3) := by decide +kernel
theorem dX12_layFirst_98 : decode cX12_layFirst 98 = .ok (.aload_n 0, 1) := by decide +kernel
theorem dX12_layFirst_99 : decode cX12_layFirst 99 = .ok (.iconst 0, 1) := by decide +kernel
theorem dX12_layFirst_100 : decode cX12_layFirst 100 = .ok (.iconst 2, 1) := by decide +kernel
theorem dX12_layFirst_101 : decode cX12_layFirst 101 = .ok (.iconst 5, 1) := by decide +kernel
theorem dX12_layFirst_102 : decode cX12_layFirst 102 = .ok (.invokevirtual 119, 3) := by decide +kernel
theorem dX12_layFirst_105 : decode cX12_layFirst 105 = .ok (.aload_n 0, 1) := by decide +kernel
theorem dX12_layFirst_106 : decode cX12_layFirst 106 = .ok (.iconst 1, 1) := by decide +kernel
theorem dX12_layFirst_107 : decode cX12_layFirst 107 = .ok (.iconst 0, 1) := by decide +kernel
theorem dX12_layFirst_108 : decode cX12_layFirst 108 = .ok (.bipush 10, 2) := by decide +kernel
theorem dX12_layFirst_110 : decode cX12_layFirst 110 = .ok (.invokevirtual 119, 3) := by decide +kernel
theorem dX12_layFirst_113 : decode cX12_layFirst 113 = .ok (.aload_n 0, 1) := by decide +kernel
theorem dX12_layFirst_114 : decode cX12_layFirst 114 = .ok (.iconst 1, 1) := by decide +kernel
theorem dX12_layFirst_115 : decode cX12_layFirst 115 = .ok (.iconst 1, 1) := by decide +kernel
theorem dX12_layFirst_116 : decode cX12_layFirst 116 = .ok (.bipush 8, 2) := by decide +kernel
theorem dX12_layFirst_118 : decode cX12_layFirst 118 = .ok (.invokevirtual 119, 3) := by decide +kernel
theorem dX12_layFirst_121 : decode cX12_layFirst 121 = .ok (.aload_n 0, 1) := by decide +kernel
theorem dX12_layFirst_122 : decode cX12_layFirst 122 = .ok (.ldc 123, 2) := by decide +kernel
theorem dX12_layFirst_124 : decode cX12_layFirst 124 = .ok (.invokestatic 33, 3) := by decide +kernel
theorem dX12_layFirst_127 : decode cX12_layFirst 127 = .ok (.l2i, 1) := by decide +kernel
theorem dX12_layFirst_128 : decode cX12_layFirst 128 = .ok (.iconst 3, 1) := by decide +kernel
theorem dX12_layFirst_129 : decode cX12_layFirst 129 = .ok (.invokevirtual 125, 3) := by decide +kernel
theorem dX12_layFirst_132 : decode cX12_layFirst 132 = .ok (.aload_n 0, 1) := by decide +kernel
theorem dX12_layFirst_133 : decode cX12_layFirst 133 = .ok (.ldc 128, 2) := by decide +kernel
theorem dX12_layFirst_135 : decode cX12_layFirst 135 = .ok (.invokestatic 33, 3) := by decide +kernel
theorem dX12_layFirst_138 : decode cX12_layFirst 138 = .ok (.l2i, 1) := by decide +kernel
theorem dX12_layFirst_139 : decode cX12_layFirst 139 = .ok (.iconst 4, 1) := by decide +kernel
theorem dX12_layFirst_140 : decode cX12_layFirst 140 = .ok (.invokevirtual 125, 3) := by decide +kernel
theorem dX12_layFirst_143 : decode cX12_layFirst 143 = .ok (.aload_n 0, 1) := by decide +kernel
theorem dX12_layFirst_144 : decode cX12_layFirst 144 = .ok (.iconst 0, 1) := by decide +kernel
theorem dX12_layFirst_145 : decode cX12_layFirst 145 = .ok (.iconst 0, 1) := by decide +kernel
theorem dX12_layFirst_146 : decode cX12_layFirst 146 = .ok (.bipush 20, 2) := by decide +kernel
theorem dX12_layFirst_148 : decode cX12_layFirst 148 = .ok (.invokevirtual 130, 3) := by decide +kernel
theorem dX12_layFirst_151 : decode cX12_layFirst 151 = .ok (.aload_n 0, 1) := by decide +kernel
theorem dX12_layFirst_152 : decode cX12_layFirst 152 = .ok (.iconst 1, 1) := by decide +kernel
theorem dX12_layFirst_153 : decode cX12_layFirst 153 = .ok (.iconst 0, 1) := by decide +kernel
theorem dX12_layFirst_154 : decode cX12_layFirst 154 = .ok (.bipush 10, 2) := by decide +kernel
theorem dX12_layFirst_156 : decode cX12_layFirst 156 = .ok (.invokevirtual 130, 3) := by decide +kernel
theorem dX12_layFirst_159 : decode cX12_layFirst 159 = .ok (.aload_n 0, 1) := by decide +kernel
theorem dX12_layFirst_160 : decode cX12_layFirst 160 = .ok (.iconst 1, 1) := by decide +kernel
theorem dX12_layFirst_161 : decode cX12_layFirst 161 = .ok (.iconst 1, 1) := by decide +kernel
theorem dX12_layFirst_162 : decode cX12_layFirst 162 = .ok (.bipush 8, 2) := by decide +kernel
theorem dX12_layFirst_164 : decode cX12_layFirst 164 = .ok (.invokevirtual 130, 3) := by decide +kernel
theorem dX12_layFirst_167 : decode cX12_layFirst 167 = .ok (.aload_n 0, 1) := by decide +kernel
theorem dX12_layFirst_168 : decode cX12_layFirst 168 = .ok (.sipush 700, 3) := by decide +kernel
theorem dX12_layFirst_171 : decode cX12_layFirst 171 = .ok (.invokevirtual 133, 3) := by decide +kernel
theorem dX12_layFirst_174 : decode cX12_layFirst 174 = .ok (.aload_n 0, 1) := by decide +kernel
theorem dX12_layFirst_175 : decode cX12_layFirst 175 = .ok (.sipush 500, 3) := by decide +kernel
theorem dX12_layFirst_178 : decode cX12_layFirst 178 = .ok (.invokevirtual 133, 3) := by decide +kernel
theorem dX12_layFirst_181 : decode cX12_layFirst 181 = .ok (.aload_n 0, 1) := by decide +kernel
theorem dX12_layFirst_182 : decode cX12_layFirst 182 = .ok (.sipush 300, 3) := by decide +kernel
theorem dX12_layFirst_185 : decode cX12_layFirst 185 = .ok (.invokevirtual 133, 3) := by decide +kernel
theorem dX12_layFirst_188 : decode cX12_layFirst 188 = .ok (.aload_n 0, 1) := by decide +kernel
theorem dX12_layFirst_189 : decode cX12_layFirst 189 = .ok (.iconst 0, 1) := by decide +kernel
theorem dX12_layFirst_190 : decode cX12_layFirst 190 = .ok (.sipush 400, 3) := by decide +kernel
theorem dX12_layFirst_193 : decode cX12_layFirst 193 = .ok (.bipush 92, 2) := by decide +kernel
theorem dX12_layFirst_195 : decode cX12_layFirst 195 = .ok (.invokevirtual 137, 3) := by decide +kernel
theorem dX12_layFirst_198 : decode cX12_layFirst 198 = .ok (.pop, 1) := by decide +kernel
theorem dX12_layFirst_199 : decode cX12_layFirst 199 = .ok (.aload_n 0, 1) := by decide +kernel
theorem dX12_layFirst_200 : decode cX12_layFirst 200 = .ok (.iconst 1, 1) := by decide +kernel
theorem dX12_layFirst_201 : decode cX12_layFirst 201 = .ok (.sipush 280, 3) := by decide +kernel
theorem dX12_layFirst_204 : decode cX12_layFirst 204 = .ok (.bipush 78, 2) := by decide +kernel
theorem dX12_layFirst_206 : decode cX12_layFirst 206 = .ok (.invokevirtual 137, 3) := by decide +kernel
theorem dX12_layFirst_209 : decode cX12_layFirst 209 = .ok (.pop, 1) := by decide +kernel
theorem dX12_layFirst_210 : decode cX12_layFirst 210 = .ok (.aload_n 0, 1) := by decide +kernel
theorem dX12_layFirst_211 : decode cX12_layFirst 211 = .ok (.iconst 2, 1) := by decide +kernel
theorem dX12_layFirst_212 : decode cX12_layFirst 212 = .ok (.sipush 200, 3) := by decide +kernel
theorem dX12_layFirst_215 : decode cX12_layFirst 215 = .ok (.bipush 76, 2) := by decide +kernel
theorem dX12_layFirst_217 : decode cX12_layFirst 217 = .ok (.invokevirtual 137, 3) := by decide +kernel
theorem dX12_layFirst_220 : decode cX12_layFirst 220 = .ok (.pop, 1) := by decide +kernel
theorem dX12_layFirst_221 : decode cX12_layFirst 221 = .ok (.aload_n 0, 1) := by decide +kernel
theorem dX12_layFirst_222 : decode cX12_layFirst 222 = .ok (.iconst 1, 1) := by decide +kernel
theorem dX12_layFirst_223 : decode cX12_layFirst 223 = .ok (.bipush 90, 2) := by decide +kernel
theorem dX12_layFirst_225 : decode cX12_layFirst 225 = .ok (.bipush 95, 2) := by decide +kernel
theorem dX12_layFirst_227 : decode cX12_layFirst 227 = .ok (.invokevirtual 137, 3) := by decide +kernel
theorem dX12_layFirst_230 : decode cX12_layFirst 230 = .ok (.pop, 1) := by decide +kernel
theorem dX12_layFirst_231 : decode cX12_layFirst 231 = .ok (.return_, 1) := by decide +kernel
theorem dX12_layVariety_0 : decode cX12_layVariety 0 = .ok (.bipush 16, 2) := by decide +kernel
theorem dX12_layVariety_2 : decode cX12_layVariety 2 = .ok (.bipush 6, 2) := by decide +kernel
theorem dX12_layVariety_4 : decode cX12_layVariety 4 = .ok (.aload_n 0, 1) := by decide +kernel
theorem dX12_layVariety_5 : decode cX12_layVariety 5 = .ok (.getfield 24, 3) := by decide +kernel
theorem dX12_layVariety_8 : decode cX12_layVariety 8 = .ok (.iconst 4, 1) := by decide +kernel
theorem dX12_layVariety_9 : decode cX12_layVariety 9 = .ok (.iaload, 1) := by decide +kernel
theorem dX12_layVariety_10 : decode cX12_layVariety 10 = .ok (.imul, 1) := by decide +kernel
theorem dX12_layVariety_11 : decode cX12_layVariety 11 = .ok (.iadd, 1) := by decide +kernel
theorem dX12_layVariety_12 : decode cX12_layVariety 12 = .ok (.istore_n 3, 1) := by decide +kernel
theorem dX12_layVariety_13 : decode cX12_layVariety 13 = .ok (.aload_n 0, 1) := by decide +kernel
theorem dX12_layVariety_14 : decode cX12_layVariety 14 = .ok (.getfield 24, 3) := by decide +kernel
theorem dX12_layVariety_17 : decode cX12_layVariety 17 = .ok (.iconst 4, 1) := by decide +kernel
theorem dX12_layVariety_18 : decode cX12_layVariety 18 = .ok (.dup2, 1) := by decide +kernel
theorem dX12_layVariety_19 : decode cX12_layVariety 19 = .ok (.iaload, 1) := by decide +kernel
theorem dX12_layVariety_20 : decode cX12_layVariety 20 = .ok (.iconst 1, 1) := by decide +kernel
theorem dX12_layVariety_21 : decode cX12_layVariety 21 = .ok (.iadd, 1) := by decide +kernel
theorem dX12_layVariety_22 : decode cX12_layVariety 22 = .ok (.iastore, 1) := by decide +kernel
theorem dX12_layVariety_23 : decode cX12_layVariety 23 = .ok (.aload_n 0, 1) := by decide +kernel
theorem dX12_layVariety_24 : decode cX12_layVariety 24 = .ok (.getfield 24, 3) := by decide +kernel
theorem dX12_layVariety_27 : decode cX12_layVariety 27 = .ok (.iload_n 3, 1) := by decide +kernel
theorem dX12_layVariety_28 : decode cX12_layVariety 28 = .ok (.iconst 0, 1) := by decide +kernel
theorem dX12_layVariety_29 : decode cX12_layVariety 29 = .ok (.iadd, 1) := by decide +kernel
theorem dX12_layVariety_30 : decode cX12_layVariety 30 = .ok (.iload_n 1, 1) := by decide +kernel
theorem dX12_layVariety_31 : decode cX12_layVariety 31 = .ok (.iastore, 1) := by decide +kernel
theorem dX12_layVariety_32 : decode cX12_layVariety 32 = .ok (.aload_n 0, 1) := by decide +kernel
theorem dX12_layVariety_33 : decode cX12_layVariety 33 = .ok (.getfield 24, 3) := by decide +kernel
theorem dX12_layVariety_36 : decode cX12_layVariety 36 = .ok (.iload_n 3, 1) := by decide +kernel
theorem dX12_layVariety_37 : decode cX12_layVariety 37 = .ok (.iconst 1, 1) := by decide +kernel
theorem dX12_layVariety_38 : decode cX12_layVariety 38 = .ok (.iadd, 1) := by decide +kernel
theorem dX12_layVariety_39 : decode cX12_layVariety 39 = .ok (.iload_n 2, 1) := by decide +kernel
theorem dX12_layVariety_40 : decode cX12_layVariety 40 = .ok (.iastore, 1) := by decide +kernel
theorem dX12_layVariety_41 : decode cX12_layVariety 41 = .ok (.return_, 1) := by decide +kernel
theorem dX12_priceOf_0 : decode cX12_priceOf 0 = .ok (.aload_n 0, 1) := by decide +kernel
theorem dX12_priceOf_1 : decode cX12_priceOf 1 = .ok (.getfield 24, 3) := by decide +kernel
theorem dX12_priceOf_4 : decode cX12_priceOf 4 = .ok (.bipush 16, 2) := by decide +kernel
theorem dX12_priceOf_6 : decode cX12_priceOf 6 = .ok (.bipush 6, 2) := by decide +kernel
theorem dX12_priceOf_8 : decode cX12_priceOf 8 = .ok (.iload_n 1, 1) := by decide +kernel
theorem dX12_priceOf_9 : decode cX12_priceOf 9 = .ok (.imul, 1) := by decide +kernel
theorem dX12_priceOf_10 : decode cX12_priceOf 10 = .ok (.iadd, 1) := by decide +kernel
theorem dX12_priceOf_11 : decode cX12_priceOf 11 = .ok (.iconst 2, 1) := by decide +kernel
theorem dX12_priceOf_12 : decode cX12_priceOf 12 = .ok (.iadd, 1) := by decide +kernel
theorem dX12_priceOf_13 : decode cX12_priceOf 13 = .ok (.iload_n 2, 1) := by decide +kernel
theorem dX12_priceOf_14 : decode cX12_priceOf 14 = .ok (.iadd, 1) := by decide +kernel
theorem dX12_priceOf_15 : decode cX12_priceOf 15 = .ok (.iaload, 1) := by decide +kernel
theorem dX12_priceOf_16 : decode cX12_priceOf 16 = .ok (.ireturn, 1) := by decide +kernel
theorem dX12_setPriceNow_0 : decode cX12_setPriceNow 0 = .ok (.aload_n 0, 1) := by decide +kernel
theorem dX12_setPriceNow_1 : decode cX12_setPriceNow 1 = .ok (.getfield 24, 3) := by decide +kernel
theorem dX12_setPriceNow_4 : decode cX12_setPriceNow 4 = .ok (.bipush 16, 2) := by decide +kernel
theorem dX12_setPriceNow_6 : decode cX12_setPriceNow 6 = .ok (.bipush 6, 2) := by decide +kernel
theorem dX12_setPriceNow_8 : decode cX12_setPriceNow 8 = .ok (.iload_n 1, 1) := by decide +kernel
theorem dX12_setPriceNow_9 : decode cX12_setPriceNow 9 = .ok (.imul, 1) := by decide +kernel
theorem dX12_setPriceNow_10 : decode cX12_setPriceNow 10 = .ok (.iadd, 1) := by decide +kernel
theorem dX12_setPriceNow_11 : decode cX12_setPriceNow 11 = .ok (.iconst 2, 1) := by decide +kernel
theorem dX12_setPriceNow_12 : decode cX12_setPriceNow 12 = .ok (.iadd, 1) := by decide +kernel
theorem dX12_setPriceNow_13 : decode cX12_setPriceNow 13 = .ok (.iload_n 2, 1) := by decide +kernel
theorem dX12_setPriceNow_14 : decode cX12_setPriceNow 14 = .ok (.iadd, 1) := by decide +kernel
theorem dX12_setPriceNow_15 : decode cX12_setPriceNow 15 = .ok (.iload_n 3, 1) := by decide +kernel
theorem dX12_setPriceNow_16 : decode cX12_setPriceNow 16 = .ok (.iastore, 1) := by decide +kernel
theorem dX12_setPriceNow_17 : decode cX12_setPriceNow 17 = .ok (.return_, 1) := by decide +kernel
theorem dX12_layGrower_0 : decode cX12_layGrower 0 = .ok (.bipush 40, 2) := by decide +kernel
theorem dX12_layGrower_2 : decode cX12_layGrower 2 = .ok (.iconst 2, 1) := by decide +kernel
theorem dX12_layGrower_3 : decode cX12_layGrower 3 = .ok (.aload_n 0, 1) := by decide +kernel
theorem dX12_layGrower_4 : decode cX12_layGrower 4 = .ok (.getfield 24, 3) := by decide +kernel
theorem dX12_layGrower_7 : decode cX12_layGrower 7 = .ok (.iconst 5, 1) := by decide +kernel
theorem dX12_layGrower_8 : decode cX12_layGrower 8 = .ok (.iaload, 1) := by decide +kernel
theorem dX12_layGrower_9 : decode cX12_layGrower 9 = .ok (.imul, 1) := by decide +kernel
theorem dX12_layGrower_10 : decode cX12_layGrower 10 = .ok (.iadd, 1) := by decide +kernel
theorem dX12_layGrower_11 : decode cX12_layGrower 11 = .ok (.istore_n 3, 1) := by decide +kernel
theorem dX12_layGrower_12 : decode cX12_layGrower 12 = .ok (.aload_n 0, 1) := by decide +kernel
theorem dX12_layGrower_13 : decode cX12_layGrower 13 = .ok (.getfield 24, 3) := by decide +kernel
theorem dX12_layGrower_16 : decode cX12_layGrower 16 = .ok (.iconst 5, 1) := by decide +kernel
theorem dX12_layGrower_17 : decode cX12_layGrower 17 = .ok (.dup2, 1) := by decide +kernel
theorem dX12_layGrower_18 : decode cX12_layGrower 18 = .ok (.iaload, 1) := by decide +kernel
theorem dX12_layGrower_19 : decode cX12_layGrower 19 = .ok (.iconst 1, 1) := by decide +kernel
theorem dX12_layGrower_20 : decode cX12_layGrower 20 = .ok (.iadd, 1) := by decide +kernel
theorem dX12_layGrower_21 : decode cX12_layGrower 21 = .ok (.iastore, 1) := by decide +kernel
theorem dX12_layGrower_22 : decode cX12_layGrower 22 = .ok (.aload_n 0, 1) := by decide +kernel
theorem dX12_layGrower_23 : decode cX12_layGrower 23 = .ok (.getfield 24, 3) := by decide +kernel
theorem dX12_layGrower_26 : decode cX12_layGrower 26 = .ok (.iload_n 3, 1) := by decide +kernel
theorem dX12_layGrower_27 : decode cX12_layGrower 27 = .ok (.iconst 0, 1) := by decide +kernel
theorem dX12_layGrower_28 : decode cX12_layGrower 28 = .ok (.iadd, 1) := by decide +kernel
theorem dX12_layGrower_29 : decode cX12_layGrower 29 = .ok (.iload_n 1, 1) := by decide +kernel
theorem dX12_layGrower_30 : decode cX12_layGrower 30 = .ok (.iastore, 1) := by decide +kernel
theorem dX12_layGrower_31 : decode cX12_layGrower 31 = .ok (.aload_n 0, 1) := by decide +kernel
theorem dX12_layGrower_32 : decode cX12_layGrower 32 = .ok (.getfield 24, 3) := by decide +kernel
theorem dX12_layGrower_35 : decode cX12_layGrower 35 = .ok (.iload_n 3, 1) := by decide +kernel
theorem dX12_layGrower_36 : decode cX12_layGrower 36 = .ok (.iconst 1, 1) := by decide +kernel
theorem dX12_layGrower_37 : decode cX12_layGrower 37 = .ok (.iadd, 1) := by decide +kernel
theorem dX12_layGrower_38 : decode cX12_layGrower 38 = .ok (.iload_n 2, 1) := by decide +kernel
theorem dX12_layGrower_39 : decode cX12_layGrower 39 = .ok (.iastore, 1) := by decide +kernel
theorem dX12_layGrower_40 : decode cX12_layGrower 40 = .ok (.return_, 1) := by decide +kernel
theorem dX12_ofPlot_0 : decode cX12_ofPlot 0 = .ok (.aload_n 0, 1) := by decide +kernel
theorem dX12_ofPlot_1 : decode cX12_ofPlot 1 = .ok (.getfield 24, 3) := by decide +kernel
theorem dX12_ofPlot_4 : decode cX12_ofPlot 4 = .ok (.bipush 52, 2) := by decide +kernel
theorem dX12_ofPlot_6 : decode cX12_ofPlot 6 = .ok (.iconst 3, 1) := by decide +kernel
theorem dX12_ofPlot_7 : decode cX12_ofPlot 7 = .ok (.iload_n 1, 1) := by decide +kernel
theorem dX12_ofPlot_8 : decode cX12_ofPlot 8 = .ok (.imul, 1) := by decide +kernel
theorem dX12_ofPlot_9 : decode cX12_ofPlot 9 = .ok (.iadd, 1) := by decide +kernel
theorem dX12_ofPlot_10 : decode cX12_ofPlot 10 = .ok (.iload_n 2, 1) := by decide +kernel
theorem dX12_ofPlot_11 : decode cX12_ofPlot 11 = .ok (.iadd, 1) := by decide +kernel
theorem dX12_ofPlot_12 : decode cX12_ofPlot 12 = .ok (.iaload, 1) := by decide +kernel
theorem dX12_ofPlot_13 : decode cX12_ofPlot 13 = .ok (.ireturn, 1) := by decide +kernel
theorem dX12_layPlot_0 : decode cX12_layPlot 0 = .ok (.bipush 52, 2) := by decide +kernel
theorem dX12_layPlot_2 : decode cX12_layPlot 2 = .ok (.iconst 3, 1) := by decide +kernel
theorem dX12_layPlot_3 : decode cX12_layPlot 3 = .ok (.aload_n 0, 1) := by decide +kernel
theorem dX12_layPlot_4 : decode cX12_layPlot 4 = .ok (.getfield 24, 3) := by decide +kernel
theorem dX12_layPlot_7 : decode cX12_layPlot 7 = .ok (.bipush 6, 2) := by decide +kernel
theorem dX12_layPlot_9 : decode cX12_layPlot 9 = .ok (.iaload, 1) := by decide +kernel
theorem dX12_layPlot_10 : decode cX12_layPlot 10 = .ok (.imul, 1) := by decide +kernel
theorem dX12_layPlot_11 : decode cX12_layPlot 11 = .ok (.iadd, 1) := by decide +kernel
theorem dX12_layPlot_12 : decode cX12_layPlot 12 = .ok (.istore 4, 2) := by decide +kernel
theorem dX12_layPlot_14 : decode cX12_layPlot 14 = .ok (.aload_n 0, 1) := by decide +kernel
theorem dX12_layPlot_15 : decode cX12_layPlot 15 = .ok (.getfield 24, 3) := by decide +kernel
theorem dX12_layPlot_18 : decode cX12_layPlot 18 = .ok (.bipush 6, 2) := by decide +kernel
theorem dX12_layPlot_20 : decode cX12_layPlot 20 = .ok (.dup2, 1) := by decide +kernel
theorem dX12_layPlot_21 : decode cX12_layPlot 21 = .ok (.iaload, 1) := by decide +kernel
theorem dX12_layPlot_22 : decode cX12_layPlot 22 = .ok (.iconst 1, 1) := by decide +kernel
theorem dX12_layPlot_23 : decode cX12_layPlot 23 = .ok (.iadd, 1) := by decide +kernel
theorem dX12_layPlot_24 : decode cX12_layPlot 24 = .ok (.iastore, 1) := by decide +kernel
theorem dX12_layPlot_25 : decode cX12_layPlot 25 = .ok (.aload_n 0, 1) := by decide +kernel
theorem dX12_layPlot_26 : decode cX12_layPlot 26 = .ok (.getfield 24, 3) := by decide +kernel
theorem dX12_layPlot_29 : decode cX12_layPlot 29 = .ok (.iload 4, 2) := by decide +kernel
theorem dX12_layPlot_31 : decode cX12_layPlot 31 = .ok (.iconst 0, 1) := by decide +kernel
theorem dX12_layPlot_32 : decode cX12_layPlot 32 = .ok (.iadd, 1) := by decide +kernel
theorem dX12_layPlot_33 : decode cX12_layPlot 33 = .ok (.iload_n 1, 1) := by decide +kernel
theorem dX12_layPlot_34 : decode cX12_layPlot 34 = .ok (.iastore, 1) := by decide +kernel
theorem dX12_layPlot_35 : decode cX12_layPlot 35 = .ok (.aload_n 0, 1) := by decide +kernel
theorem dX12_layPlot_36 : decode cX12_layPlot 36 = .ok (.getfield 24, 3) := by decide +kernel
theorem dX12_layPlot_39 : decode cX12_layPlot 39 = .ok (.iload 4, 2) := by decide +kernel
theorem dX12_layPlot_41 : decode cX12_layPlot 41 = .ok (.iconst 1, 1) := by decide +kernel
theorem dX12_layPlot_42 : decode cX12_layPlot 42 = .ok (.iadd, 1) := by decide +kernel
theorem dX12_layPlot_43 : decode cX12_layPlot 43 = .ok (.iload_n 2, 1) := by decide +kernel
theorem dX12_layPlot_44 : decode cX12_layPlot 44 = .ok (.iastore, 1) := by decide +kernel
theorem dX12_layPlot_45 : decode cX12_layPlot 45 = .ok (.aload_n 0, 1) := by decide +kernel
theorem dX12_layPlot_46 : decode cX12_layPlot 46 = .ok (.getfield 24, 3) := by decide +kernel
theorem dX12_layPlot_49 : decode cX12_layPlot 49 = .ok (.iload 4, 2) := by decide +kernel
theorem dX12_layPlot_51 : decode cX12_layPlot 51 = .ok (.iconst 2, 1) := by decide +kernel
theorem dX12_layPlot_52 : decode cX12_layPlot 52 = .ok (.iadd, 1) := by decide +kernel
theorem dX12_layPlot_53 : decode cX12_layPlot 53 = .ok (.iload_n 3, 1) := by decide +kernel
theorem dX12_layPlot_54 : decode cX12_layPlot 54 = .ok (.iastore, 1) := by decide +kernel
theorem dX12_layPlot_55 : decode cX12_layPlot 55 = .ok (.return_, 1) := by decide +kernel
theorem dX12_ofLoad_0 : decode cX12_ofLoad 0 = .ok (.aload_n 0, 1) := by decide +kernel
theorem dX12_ofLoad_1 : decode cX12_ofLoad 1 = .ok (.getfield 24, 3) := by decide +kernel
theorem dX12_ofLoad_4 : decode cX12_ofLoad 4 = .ok (.bipush 76, 2) := by decide +kernel
theorem dX12_ofLoad_6 : decode cX12_ofLoad 6 = .ok (.bipush 6, 2) := by decide +kernel
theorem dX12_ofLoad_8 : decode cX12_ofLoad 8 = .ok (.iload_n 1, 1) := by decide +kernel
theorem dX12_ofLoad_9 : decode cX12_ofLoad 9 = .ok (.imul, 1) := by decide +kernel
theorem dX12_ofLoad_10 : decode cX12_ofLoad 10 = .ok (.iadd, 1) := by decide +kernel
theorem dX12_ofLoad_11 : decode cX12_ofLoad 11 = .ok (.iload_n 2, 1) := by decide +kernel
theorem dX12_ofLoad_12 : decode cX12_ofLoad 12 = .ok (.iadd, 1) := by decide +kernel
theorem dX12_ofLoad_13 : decode cX12_ofLoad 13 = .ok (.iaload, 1) := by decide +kernel
theorem dX12_ofLoad_14 : decode cX12_ofLoad 14 = .ok (.ireturn, 1) := by decide +kernel
theorem dX12_setLoad_0 : decode cX12_setLoad 0 = .ok (.aload_n 0, 1) := by decide +kernel
theorem dX12_setLoad_1 : decode cX12_setLoad 1 = .ok (.getfield 24, 3) := by decide +kernel
theorem dX12_setLoad_4 : decode cX12_setLoad 4 = .ok (.bipush 76, 2) := by decide +kernel
theorem dX12_setLoad_6 : decode cX12_setLoad 6 = .ok (.bipush 6, 2) := by decide +kernel
theorem dX12_setLoad_8 : decode cX12_setLoad 8 = .ok (.iload_n 1, 1) := by decide +kernel
theorem dX12_setLoad_9 : decode cX12_setLoad 9 = .ok (.imul, 1) := by decide +kernel
theorem dX12_setLoad_10 : decode cX12_setLoad 10 = .ok (.iadd, 1) := by decide +kernel
theorem dX12_setLoad_11 : decode cX12_setLoad 11 = .ok (.iload_n 2, 1) := by decide +kernel
theorem dX12_setLoad_12 : decode cX12_setLoad 12 = .ok (.iadd, 1) := by decide +kernel
theorem dX12_setLoad_13 : decode cX12_setLoad 13 = .ok (.iload_n 3, 1) := by decide +kernel
theorem dX12_setLoad_14 : decode cX12_setLoad 14 = .ok (.iastore, 1) := by decide +kernel
theorem dX12_setLoad_15 : decode cX12_setLoad 15 = .ok (.return_, 1) := by decide +kernel
theorem dX12_ofTank_0 : decode cX12_ofTank 0 = .ok (.aload_n 0, 1) := by decide +kernel
theorem dX12_ofTank_1 : decode cX12_ofTank 1 = .ok (.getfield 24, 3) := by decide +kernel
theorem dX12_ofTank_4 : decode cX12_ofTank 4 = .ok (.sipush 196, 3) := by decide +kernel
theorem dX12_ofTank_7 : decode cX12_ofTank 7 = .ok (.iconst 4, 1) := by decide +kernel
theorem dX12_ofTank_8 : decode cX12_ofTank 8 = .ok (.iload_n 1, 1) := by decide +kernel
theorem dX12_ofTank_9 : decode cX12_ofTank 9 = .ok (.imul, 1) := by decide +kernel
theorem dX12_ofTank_10 : decode cX12_ofTank 10 = .ok (.iadd, 1) := by decide +kernel
theorem dX12_ofTank_11 : decode cX12_ofTank 11 = .ok (.iload_n 2, 1) := by decide +kernel
theorem dX12_ofTank_12 : decode cX12_ofTank 12 = .ok (.iadd, 1) := by decide +kernel
theorem dX12_ofTank_13 : decode cX12_ofTank 13 = .ok (.iaload, 1) := by decide +kernel
theorem dX12_ofTank_14 : decode cX12_ofTank 14 = .ok (.ireturn, 1) := by decide +kernel
theorem dX12_setTank_0 : decode cX12_setTank 0 = .ok (.aload_n 0, 1) := by decide +kernel
theorem dX12_setTank_1 : decode cX12_setTank 1 = .ok (.getfield 24, 3) := by decide +kernel
theorem dX12_setTank_4 : decode cX12_setTank 4 = .ok (.sipush 196, 3) := by decide +kernel
theorem dX12_setTank_7 : decode cX12_setTank 7 = .ok (.iconst 4, 1) := by decide +kernel
theorem dX12_setTank_8 : decode cX12_setTank 8 = .ok (.iload_n 1, 1) := by decide +kernel
theorem dX12_setTank_9 : decode cX12_setTank 9 = .ok (.imul, 1) := by decide +kernel
theorem dX12_setTank_10 : decode cX12_setTank 10 = .ok (.iadd, 1) := by decide +kernel
theorem dX12_setTank_11 : decode cX12_setTank 11 = .ok (.iload_n 2, 1) := by decide +kernel
theorem dX12_setTank_12 : decode cX12_setTank 12 = .ok (.iadd, 1) := by decide +kernel
theorem dX12_setTank_13 : decode cX12_setTank 13 = .ok (.iload_n 3, 1) := by decide +kernel
theorem dX12_setTank_14 : decode cX12_setTank 14 = .ok (.iastore, 1) := by decide +kernel
theorem dX12_setTank_15 : decode cX12_setTank 15 = .ok (.return_, 1) := by decide +kernel
theorem dX12_layTank_0 : decode cX12_layTank 0 = .ok (.aload_n 0, 1) := by decide +kernel
theorem dX12_layTank_1 : decode cX12_layTank 1 = .ok (.getfield 24, 3) := by decide +kernel
theorem dX12_layTank_4 : decode cX12_layTank 4 = .ok (.bipush 8, 2) := by decide +kernel
theorem dX12_layTank_6 : decode cX12_layTank 6 = .ok (.iaload, 1) := by decide +kernel
theorem dX12_layTank_7 : decode cX12_layTank 7 = .ok (.istore_n 2, 1) := by decide +kernel
theorem dX12_layTank_8 : decode cX12_layTank 8 = .ok (.aload_n 0, 1) := by decide +kernel
theorem dX12_layTank_9 : decode cX12_layTank 9 = .ok (.getfield 24, 3) := by decide +kernel
theorem dX12_layTank_12 : decode cX12_layTank 12 = .ok (.bipush 8, 2) := by decide +kernel
theorem dX12_layTank_14 : decode cX12_layTank 14 = .ok (.dup2, 1) := by decide +kernel
theorem dX12_layTank_15 : decode cX12_layTank 15 = .ok (.iaload, 1) := by decide +kernel
theorem dX12_layTank_16 : decode cX12_layTank 16 = .ok (.iconst 1, 1) := by decide +kernel
theorem dX12_layTank_17 : decode cX12_layTank 17 = .ok (.iadd, 1) := by decide +kernel
theorem dX12_layTank_18 : decode cX12_layTank 18 = .ok (.iastore, 1) := by decide +kernel
theorem dX12_layTank_19 : decode cX12_layTank 19 = .ok (.aload_n 0, 1) := by decide +kernel
theorem dX12_layTank_20 : decode cX12_layTank 20 = .ok (.iload_n 2, 1) := by decide +kernel
theorem dX12_layTank_21 : decode cX12_layTank 21 = .ok (.iconst 0, 1) := by decide +kernel
theorem dX12_layTank_22 : decode cX12_layTank 22 = .ok (.iload_n 1, 1) := by decide +kernel
theorem dX12_layTank_23 : decode cX12_layTank 23 = .ok (.invokevirtual 141, 3) := by decide +kernel
theorem dX12_layTank_26 : decode cX12_layTank 26 = .ok (.aload_n 0, 1) := by decide +kernel
theorem dX12_layTank_27 : decode cX12_layTank 27 = .ok (.iload_n 2, 1) := by decide +kernel
theorem dX12_layTank_28 : decode cX12_layTank 28 = .ok (.iconst 2, 1) := by decide +kernel
theorem dX12_layTank_29 : decode cX12_layTank 29 = .ok (.iconst (-1), 1) := by decide +kernel
theorem dX12_layTank_30 : decode cX12_layTank 30 = .ok (.invokevirtual 141, 3) := by decide +kernel
theorem dX12_layTank_33 : decode cX12_layTank 33 = .ok (.return_, 1) := by decide +kernel
theorem dX12_ofLot_0 : decode cX12_ofLot 0 = .ok (.aload_n 0, 1) := by decide +kernel
theorem dX12_ofLot_1 : decode cX12_ofLot 1 = .ok (.getfield 24, 3) := by decide +kernel
theorem dX12_ofLot_4 : decode cX12_ofLot 4 = .ok (.sipush 216, 3) := by decide +kernel
theorem dX12_ofLot_7 : decode cX12_ofLot 7 = .ok (.iconst 4, 1) := by decide +kernel
theorem dX12_ofLot_8 : decode cX12_ofLot 8 = .ok (.iload_n 1, 1) := by decide +kernel
theorem dX12_ofLot_9 : decode cX12_ofLot 9 = .ok (.imul, 1) := by decide +kernel
theorem dX12_ofLot_10 : decode cX12_ofLot 10 = .ok (.iadd, 1) := by decide +kernel
theorem dX12_ofLot_11 : decode cX12_ofLot 11 = .ok (.iload_n 2, 1) := by decide +kernel
theorem dX12_ofLot_12 : decode cX12_ofLot 12 = .ok (.iadd, 1) := by decide +kernel
theorem dX12_ofLot_13 : decode cX12_ofLot 13 = .ok (.iaload, 1) := by decide +kernel
theorem dX12_ofLot_14 : decode cX12_ofLot 14 = .ok (.ireturn, 1) := by decide +kernel
theorem dX12_setLot_0 : decode cX12_setLot 0 = .ok (.aload_n 0, 1) := by decide +kernel
theorem dX12_setLot_1 : decode cX12_setLot 1 = .ok (.getfield 24, 3) := by decide +kernel
theorem dX12_setLot_4 : decode cX12_setLot 4 = .ok (.sipush 216, 3) := by decide +kernel
theorem dX12_setLot_7 : decode cX12_setLot 7 = .ok (.iconst 4, 1) := by decide +kernel
theorem dX12_setLot_8 : decode cX12_setLot 8 = .ok (.iload_n 1, 1) := by decide +kernel
theorem dX12_setLot_9 : decode cX12_setLot 9 = .ok (.imul, 1) := by decide +kernel
theorem dX12_setLot_10 : decode cX12_setLot 10 = .ok (.iadd, 1) := by decide +kernel
theorem dX12_setLot_11 : decode cX12_setLot 11 = .ok (.iload_n 2, 1) := by decide +kernel
theorem dX12_setLot_12 : decode cX12_setLot 12 = .ok (.iadd, 1) := by decide +kernel
theorem dX12_setLot_13 : decode cX12_setLot 13 = .ok (.iload_n 3, 1) := by decide +kernel
theorem dX12_setLot_14 : decode cX12_setLot 14 = .ok (.iastore, 1) := by decide +kernel
theorem dX12_setLot_15 : decode cX12_setLot 15 = .ok (.return_, 1) := by decide +kernel
theorem dX12_gradeOf_0 : decode cX12_gradeOf 0 = .ok (.iconst 0, 1) := by decide +kernel
theorem dX12_gradeOf_1 : decode cX12_gradeOf 1 = .ok (.istore_n 2, 1) := by decide +kernel
theorem dX12_gradeOf_2 : decode cX12_gradeOf 2 = .ok (.iload_n 2, 1) := by decide +kernel
theorem dX12_gradeOf_3 : decode cX12_gradeOf 3 = .ok (.aload_n 0, 1) := by decide +kernel
theorem dX12_gradeOf_4 : decode cX12_gradeOf 4 = .ok (.getfield 24, 3) := by decide +kernel
theorem dX12_gradeOf_7 : decode cX12_gradeOf 7 = .ok (.iconst 3, 1) := by decide +kernel
theorem dX12_gradeOf_8 : decode cX12_gradeOf 8 = .ok (.iaload, 1) := by decide +kernel
theorem dX12_gradeOf_9 : decode cX12_gradeOf 9 = .ok (.if_icmp .ge 24, 3) := by decide +kernel
theorem dX12_gradeOf_12 : decode cX12_gradeOf 12 = .ok (.iload_n 1, 1) := by decide +kernel
theorem dX12_gradeOf_13 : decode cX12_gradeOf 13 = .ok (.aload_n 0, 1) := by decide +kernel
theorem dX12_gradeOf_14 : decode cX12_gradeOf 14 = .ok (.getfield 24, 3) := by decide +kernel
theorem dX12_gradeOf_17 : decode cX12_gradeOf 17 = .ok (.bipush 12, 2) := by decide +kernel
theorem dX12_gradeOf_19 : decode cX12_gradeOf 19 = .ok (.iload_n 2, 1) := by decide +kernel
theorem dX12_gradeOf_20 : decode cX12_gradeOf 20 = .ok (.iadd, 1) := by decide +kernel
theorem dX12_gradeOf_21 : decode cX12_gradeOf 21 = .ok (.iaload, 1) := by decide +kernel
theorem dX12_gradeOf_22 : decode cX12_gradeOf 22 = .ok (.if_icmp .lt 5, 3) := by decide +kernel
theorem dX12_gradeOf_25 : decode cX12_gradeOf 25 = .ok (.iload_n 2, 1) := by decide +kernel
theorem dX12_gradeOf_26 : decode cX12_gradeOf 26 = .ok (.ireturn, 1) := by decide +kernel
theorem dX12_gradeOf_27 : decode cX12_gradeOf 27 = .ok (.iinc 2 1, 3) := by decide +kernel
theorem dX12_gradeOf_30 : decode cX12_gradeOf 30 = .ok (.goto (-28), 3) := by decide +kernel
theorem dX12_gradeOf_33 : decode cX12_gradeOf 33 = .ok (.iconst (-1), 1) := by decide +kernel
theorem dX12_gradeOf_34 : decode cX12_gradeOf 34 = .ok (.ireturn, 1) := by decide +kernel
theorem dX12_limitOf_0 : decode cX12_limitOf 0 = .ok (.aload_n 0, 1) := by decide +kernel
theorem dX12_limitOf_1 : decode cX12_limitOf 1 = .ok (.iload_n 1, 1) := by decide +kernel
theorem dX12_limitOf_2 : decode cX12_limitOf 2 = .ok (.iconst 2, 1) := by decide +kernel
theorem dX12_limitOf_3 : decode cX12_limitOf 3 = .ok (.invokevirtual 144, 3) := by decide +kernel
theorem dX12_limitOf_6 : decode cX12_limitOf 6 = .ok (.aload_n 0, 1) := by decide +kernel
theorem dX12_limitOf_7 : decode cX12_limitOf 7 = .ok (.getfield 24, 3) := by decide +kernel
theorem dX12_limitOf_10 : decode cX12_limitOf 10 = .ok (.iconst 0, 1) := by decide +kernel
theorem dX12_limitOf_11 : decode cX12_limitOf 11 = .ok (.iaload, 1) := by decide +kernel
theorem dX12_limitOf_12 : decode cX12_limitOf 12 = .ok (.imul, 1) := by decide +kernel
theorem dX12_limitOf_13 : decode cX12_limitOf 13 = .ok (.ireturn, 1) := by decide +kernel
theorem dX12_harvestOf_0 : decode cX12_harvestOf 0 = .ok (.iconst 0, 1) := by decide +kernel
theorem dX12_harvestOf_1 : decode cX12_harvestOf 1 = .ok (.istore_n 2, 1) := by decide +kernel
theorem dX12_harvestOf_2 : decode cX12_harvestOf 2 = .ok (.iconst 0, 1) := by decide +kernel
theorem dX12_harvestOf_3 : decode cX12_harvestOf 3 = .ok (.istore_n 3, 1) := by decide +kernel
theorem dX12_harvestOf_4 : decode cX12_harvestOf 4 = .ok (.iload_n 3, 1) := by decide +kernel
theorem dX12_harvestOf_5 : decode cX12_harvestOf 5 = .ok (.aload_n 0, 1) := by decide +kernel
theorem dX12_harvestOf_6 : decode cX12_harvestOf 6 = .ok (.getfield 24, 3) := by decide +kernel
theorem dX12_harvestOf_9 : decode cX12_harvestOf 9 = .ok (.bipush 7, 2) := by decide +kernel
theorem dX12_harvestOf_11 : decode cX12_harvestOf 11 = .ok (.iaload, 1) := by decide +kernel
theorem dX12_harvestOf_12 : decode cX12_harvestOf 12 = .ok (.if_icmp .ge 32, 3) := by decide +kernel
theorem dX12_harvestOf_15 : decode cX12_harvestOf 15 = .ok (.iload_n 2, 1) := by decide +kernel
theorem dX12_harvestOf_16 : decode cX12_harvestOf 16 = .ok (.aload_n 0, 1) := by decide +kernel
theorem dX12_harvestOf_17 : decode cX12_harvestOf 17 = .ok (.iload_n 3, 1) := by decide +kernel
theorem dX12_harvestOf_18 : decode cX12_harvestOf 18 = .ok (.iconst 0, 1) := by decide +kernel
theorem dX12_harvestOf_19 : decode cX12_harvestOf 19 = .ok (.invokevirtual 148, 3) := by decide +kernel
theorem dX12_harvestOf_22 : decode cX12_harvestOf 22 = .ok (.iload_n 1, 1) := by decide +kernel
theorem dX12_harvestOf_23 : decode cX12_harvestOf 23 = .ok (.if_icmp .ne 12, 3) := by decide +kernel
theorem dX12_harvestOf_26 : decode cX12_harvestOf 26 = .ok (.aload_n 0, 1) := by decide +kernel
theorem dX12_harvestOf_27 : decode cX12_harvestOf 27 = .ok (.iload_n 3, 1) := by decide +kernel
theorem dX12_harvestOf_28 : decode cX12_harvestOf 28 = .ok (.iconst 1, 1) := by decide +kernel
theorem dX12_harvestOf_29 : decode cX12_harvestOf 29 = .ok (.invokevirtual 148, 3) := by decide +kernel
theorem dX12_harvestOf_32 : decode cX12_harvestOf 32 = .ok (.goto 4, 3) := by decide +kernel
theorem dX12_harvestOf_35 : decode cX12_harvestOf 35 = .ok (.iconst 0, 1) := by decide +kernel
theorem dX12_harvestOf_36 : decode cX12_harvestOf 36 = .ok (.iadd, 1) := by decide +kernel
theorem dX12_harvestOf_37 : decode cX12_harvestOf 37 = .ok (.istore_n 2, 1) := by decide +kernel
theorem dX12_harvestOf_38 : decode cX12_harvestOf 38 = .ok (.iinc 3 1, 3) := by decide +kernel
theorem dX12_harvestOf_41 : decode cX12_harvestOf 41 = .ok (.goto (-37), 3) := by decide +kernel
theorem dX12_harvestOf_44 : decode cX12_harvestOf 44 = .ok (.iload_n 2, 1) := by decide +kernel
theorem dX12_harvestOf_45 : decode cX12_harvestOf 45 = .ok (.ireturn, 1) := by decide +kernel
theorem dX12_roomIn_0 : decode cX12_roomIn 0 = .ok (.aload_n 0, 1) := by decide +kernel
theorem dX12_roomIn_1 : decode cX12_roomIn 1 = .ok (.iload_n 1, 1) := by decide +kernel
theorem dX12_roomIn_2 : decode cX12_roomIn 2 = .ok (.iconst 0, 1) := by decide +kernel
theorem dX12_roomIn_3 : decode cX12_roomIn 3 = .ok (.invokevirtual 151, 3) := by decide +kernel
theorem dX12_roomIn_6 : decode cX12_roomIn 6 = .ok (.aload_n 0, 1) := by decide +kernel
theorem dX12_roomIn_7 : decode cX12_roomIn 7 = .ok (.iload_n 1, 1) := by decide +kernel
theorem dX12_roomIn_8 : decode cX12_roomIn 8 = .ok (.iconst 1, 1) := by decide +kernel
theorem dX12_roomIn_9 : decode cX12_roomIn 9 = .ok (.invokevirtual 151, 3) := by decide +kernel
theorem dX12_roomIn_12 : decode cX12_roomIn 12 = .ok (.isub, 1) := by decide +kernel
theorem dX12_roomIn_13 : decode cX12_roomIn 13 = .ok (.ireturn, 1) := by decide +kernel
theorem dX12_firstTank_0 : decode cX12_firstTank 0 = .ok (.iconst 0, 1) := by decide +kernel
theorem dX12_firstTank_1 : decode cX12_firstTank 1 = .ok (.istore_n 3, 1) := by decide +kernel
theorem dX12_firstTank_2 : decode cX12_firstTank 2 = .ok (.iload_n 3, 1) := by decide +kernel
theorem dX12_firstTank_3 : decode cX12_firstTank 3 = .ok (.aload_n 0, 1) := by decide +kernel
theorem dX12_firstTank_4 : decode cX12_firstTank 4 = .ok (.getfield 24, 3) := by decide +kernel
theorem dX12_firstTank_7 : decode cX12_firstTank 7 = .ok (.bipush 8, 2) := by decide +kernel
theorem dX12_firstTank_9 : decode cX12_firstTank 9 = .ok (.iaload, 1) := by decide +kernel
theorem dX12_firstTank_10 : decode cX12_firstTank 10 = .ok (.if_icmp .ge 30, 3) := by decide +kernel
theorem dX12_firstTank_13 : decode cX12_firstTank 13 = .ok (.aload_n 0, 1) := by decide +kernel
theorem dX12_firstTank_14 : decode cX12_firstTank 14 = .ok (.iload_n 3, 1) := by decide +kernel
theorem dX12_firstTank_15 : decode cX12_firstTank 15 = .ok (.iconst 2, 1) := by decide +kernel
theorem dX12_firstTank_16 : decode cX12_firstTank 16 = .ok (.invokevirtual 151, 3) := by decide +kernel
theorem dX12_firstTank_19 : decode cX12_firstTank 19 = .ok (.iload_n 1, 1) := by decide +kernel
theorem dX12_firstTank_20 : decode cX12_firstTank 20 = .ok (.if_icmp .ne 14, 3) := by decide +kernel
theorem dX12_firstTank_23 : decode cX12_firstTank 23 = .ok (.aload_n 0, 1) := by decide +kernel
theorem dX12_firstTank_24 : decode cX12_firstTank 24 = .ok (.iload_n 3, 1) := by decide +kernel
theorem dX12_firstTank_25 : decode cX12_firstTank 25 = .ok (.invokevirtual 154, 3) := by decide +kernel
theorem dX12_firstTank_28 : decode cX12_firstTank 28 = .ok (.iload_n 2, 1) := by decide +kernel
theorem dX12_firstTank_29 : decode cX12_firstTank 29 = .ok (.if_icmp .lt 5, 3) := by decide +kernel
theorem dX12_firstTank_32 : decode cX12_firstTank 32 = .ok (.iload_n 3, 1) := by decide +kernel
theorem dX12_firstTank_33 : decode cX12_firstTank 33 = .ok (.ireturn, 1) := by decide +kernel
theorem dX12_firstTank_34 : decode cX12_firstTank 34 = .ok (.iinc 3 1, 3) := by decide +kernel
theorem dX12_firstTank_37 : decode cX12_firstTank 37 = .ok (.goto (-35), 3) := by decide +kernel
theorem dX12_firstTank_40 : decode cX12_firstTank 40 = .ok (.iconst (-1), 1) := by decide +kernel
theorem dX12_firstTank_41 : decode cX12_firstTank 41 = .ok (.ireturn, 1) := by decide +kernel
theorem dX12_tankOf_0 : decode cX12_tankOf 0 = .ok (.aload_n 0, 1) := by decide +kernel
theorem dX12_tankOf_1 : decode cX12_tankOf 1 = .ok (.iload_n 1, 1) := by decide +kernel
theorem dX12_tankOf_2 : decode cX12_tankOf 2 = .ok (.iload_n 2, 1) := by decide +kernel
theorem dX12_tankOf_3 : decode cX12_tankOf 3 = .ok (.invokevirtual 158, 3) := by decide +kernel
theorem dX12_tankOf_6 : decode cX12_tankOf 6 = .ok (.istore_n 3, 1) := by decide +kernel
theorem dX12_tankOf_7 : decode cX12_tankOf 7 = .ok (.iload_n 3, 1) := by decide +kernel
theorem dX12_tankOf_8 : decode cX12_tankOf 8 = .ok (.iconst (-1), 1) := by decide +kernel
theorem dX12_tankOf_9 : decode cX12_tankOf 9 = .ok (.if_icmp .eq 7, 3) := by decide +kernel
theorem dX12_tankOf_12 : decode cX12_tankOf 12 = .ok (.iload_n 3, 1) := by decide +kernel
theorem dX12_tankOf_13 : decode cX12_tankOf 13 = .ok (.goto 9, 3) := by decide +kernel
theorem dX12_tankOf_16 : decode cX12_tankOf 16 = .ok (.aload_n 0, 1) := by decide +kernel
theorem dX12_tankOf_17 : decode cX12_tankOf 17 = .ok (.iconst (-1), 1) := by decide +kernel
theorem dX12_tankOf_18 : decode cX12_tankOf 18 = .ok (.iload_n 2, 1) := by decide +kernel
theorem dX12_tankOf_19 : decode cX12_tankOf 19 = .ok (.invokevirtual 158, 3) := by decide +kernel
theorem dX12_tankOf_22 : decode cX12_tankOf 22 = .ok (.ireturn, 1) := by decide +kernel
theorem dX12_reasonOf_0 : decode cX12_reasonOf 0 = .ok (.aload_n 0, 1) := by decide +kernel
theorem dX12_reasonOf_1 : decode cX12_reasonOf 1 = .ok (.getfield 24, 3) := by decide +kernel
theorem dX12_reasonOf_4 : decode cX12_reasonOf 4 = .ok (.bipush 7, 2) := by decide +kernel
theorem dX12_reasonOf_6 : decode cX12_reasonOf 6 = .ok (.iaload, 1) := by decide +kernel
theorem dX12_reasonOf_7 : decode cX12_reasonOf 7 = .ok (.bipush 20, 2) := by decide +kernel
theorem dX12_reasonOf_9 : decode cX12_reasonOf 9 = .ok (.if_icmp .ne 5, 3) := by decide +kernel
theorem dX12_reasonOf_12 : decode cX12_reasonOf 12 = .ok (.iconst 1, 1) := by decide +kernel
theorem dX12_reasonOf_13 : decode cX12_reasonOf 13 = .ok (.ireturn, 1) := by decide +kernel
theorem dX12_reasonOf_14 : decode cX12_reasonOf 14 = .ok (.aload_n 0, 1) := by decide +kernel
theorem dX12_reasonOf_15 : decode cX12_reasonOf 15 = .ok (.iload_n 3, 1) := by decide +kernel
theorem dX12_reasonOf_16 : decode cX12_reasonOf 16 = .ok (.invokevirtual 161, 3) := by decide +kernel
theorem dX12_reasonOf_19 : decode cX12_reasonOf 19 = .ok (.iconst (-1), 1) := by decide +kernel
theorem dX12_reasonOf_20 : decode cX12_reasonOf 20 = .ok (.if_icmp .ne 5, 3) := by decide +kernel
theorem dX12_reasonOf_23 : decode cX12_reasonOf 23 = .ok (.iconst 2, 1) := by decide +kernel
theorem dX12_reasonOf_24 : decode cX12_reasonOf 24 = .ok (.ireturn, 1) := by decide +kernel
theorem dX12_reasonOf_25 : decode cX12_reasonOf 25 = .ok (.aload_n 0, 1) := by decide +kernel
theorem dX12_reasonOf_26 : decode cX12_reasonOf 26 = .ok (.aload_n 0, 1) := by decide +kernel
theorem dX12_reasonOf_27 : decode cX12_reasonOf 27 = .ok (.iload_n 1, 1) := by decide +kernel
theorem dX12_reasonOf_28 : decode cX12_reasonOf 28 = .ok (.iconst 1, 1) := by decide +kernel
theorem dX12_reasonOf_29 : decode cX12_reasonOf 29 = .ok (.invokevirtual 144, 3) := by decide +kernel
theorem dX12_reasonOf_32 : decode cX12_reasonOf 32 = .ok (.iload_n 2, 1) := by decide +kernel
theorem dX12_reasonOf_33 : decode cX12_reasonOf 33 = .ok (.invokevirtual 164, 3) := by decide +kernel
theorem dX12_reasonOf_36 : decode cX12_reasonOf 36 = .ok (.iconst (-1), 1) := by decide +kernel
theorem dX12_reasonOf_37 : decode cX12_reasonOf 37 = .ok (.if_icmp .ne 7, 3) := by decide +kernel
theorem dX12_reasonOf_40 : decode cX12_reasonOf 40 = .ok (.iconst 3, 1) := by decide +kernel
theorem dX12_reasonOf_41 : decode cX12_reasonOf 41 = .ok (.goto 4, 3) := by decide +kernel
theorem dX12_reasonOf_44 : decode cX12_reasonOf 44 = .ok (.iconst 0, 1) := by decide +kernel
theorem dX12_reasonOf_45 : decode cX12_reasonOf 45 = .ok (.ireturn, 1) := by decide +kernel
theorem dX12_gradeAs_0 : decode cX12_gradeAs 0 = .ok (.aload_n 0, 1) := by decide +kernel
theorem dX12_gradeAs_1 : decode cX12_gradeAs 1 = .ok (.iload_n 1, 1) := by decide +kernel
theorem dX12_gradeAs_2 : decode cX12_gradeAs 2 = .ok (.invokevirtual 167, 3) := by decide +kernel
theorem dX12_gradeAs_5 : decode cX12_gradeAs 5 = .ok (.iload_n 2, 1) := by decide +kernel
theorem dX12_gradeAs_6 : decode cX12_gradeAs 6 = .ok (.iadd, 1) := by decide +kernel
theorem dX12_gradeAs_7 : decode cX12_gradeAs 7 = .ok (.aload_n 0, 1) := by decide +kernel
theorem dX12_gradeAs_8 : decode cX12_gradeAs 8 = .ok (.iload_n 1, 1) := by decide +kernel
theorem dX12_gradeAs_9 : decode cX12_gradeAs 9 = .ok (.invokevirtual 170, 3) := by decide +kernel
theorem dX12_gradeAs_12 : decode cX12_gradeAs 12 = .ok (.if_icmp .le 14, 3) := by decide +kernel
theorem dX12_gradeAs_15 : decode cX12_gradeAs 15 = .ok (.aload_n 0, 1) := by decide +kernel
theorem dX12_gradeAs_16 : decode cX12_gradeAs 16 = .ok (.getfield 24, 3) := by decide +kernel
theorem dX12_gradeAs_19 : decode cX12_gradeAs 19 = .ok (.iconst 3, 1) := by decide +kernel
theorem dX12_gradeAs_20 : decode cX12_gradeAs 20 = .ok (.iaload, 1) := by decide +kernel
theorem dX12_gradeAs_21 : decode cX12_gradeAs 21 = .ok (.iconst 1, 1) := by decide +kernel
theorem dX12_gradeAs_22 : decode cX12_gradeAs 22 = .ok (.isub, 1) := by decide +kernel
theorem dX12_gradeAs_23 : decode cX12_gradeAs 23 = .ok (.goto 8, 3) := by decide +kernel
theorem dX12_gradeAs_26 : decode cX12_gradeAs 26 = .ok (.aload_n 0, 1) := by decide +kernel
theorem dX12_gradeAs_27 : decode cX12_gradeAs 27 = .ok (.iload_n 3, 1) := by decide +kernel
theorem dX12_gradeAs_28 : decode cX12_gradeAs 28 = .ok (.invokevirtual 161, 3) := by decide +kernel
theorem dX12_gradeAs_31 : decode cX12_gradeAs 31 = .ok (.ireturn, 1) := by decide +kernel
theorem dX12_layLoad_0 : decode cX12_layLoad 0 = .ok (.aload_n 0, 1) := by decide +kernel
theorem dX12_layLoad_1 : decode cX12_layLoad 1 = .ok (.iload_n 1, 1) := by decide +kernel
theorem dX12_layLoad_2 : decode cX12_layLoad 2 = .ok (.iconst 1, 1) := by decide +kernel
theorem dX12_layLoad_3 : decode cX12_layLoad 3 = .ok (.invokevirtual 144, 3) := by decide +kernel
theorem dX12_layLoad_6 : decode cX12_layLoad 6 = .ok (.istore 4, 2) := by decide +kernel
theorem dX12_layLoad_8 : decode cX12_layLoad 8 = .ok (.aload_n 0, 1) := by decide +kernel
theorem dX12_layLoad_9 : decode cX12_layLoad 9 = .ok (.iload 4, 2) := by decide +kernel
theorem dX12_layLoad_11 : decode cX12_layLoad 11 = .ok (.iload_n 2, 1) := by decide +kernel
theorem dX12_layLoad_12 : decode cX12_layLoad 12 = .ok (.invokevirtual 164, 3) := by decide +kernel
theorem dX12_layLoad_15 : decode cX12_layLoad 15 = .ok (.istore 5, 2) := by decide +kernel
theorem dX12_layLoad_17 : decode cX12_layLoad 17 = .ok (.aload_n 0, 1) := by decide +kernel
theorem dX12_layLoad_18 : decode cX12_layLoad 18 = .ok (.iload_n 1, 1) := by decide +kernel
theorem dX12_layLoad_19 : decode cX12_layLoad 19 = .ok (.iload_n 2, 1) := by decide +kernel
theorem dX12_layLoad_20 : decode cX12_layLoad 20 = .ok (.iload_n 3, 1) := by decide +kernel
theorem dX12_layLoad_21 : decode cX12_layLoad 21 = .ok (.invokevirtual 173, 3) := by decide +kernel
theorem dX12_layLoad_24 : decode cX12_layLoad 24 = .ok (.istore 6, 2) := by decide +kernel
theorem dX12_layLoad_26 : decode cX12_layLoad 26 = .ok (.aload_n 0, 1) := by decide +kernel
theorem dX12_layLoad_27 : decode cX12_layLoad 27 = .ok (.getfield 24, 3) := by decide +kernel
theorem dX12_layLoad_30 : decode cX12_layLoad 30 = .ok (.bipush 7, 2) := by decide +kernel
theorem dX12_layLoad_32 : decode cX12_layLoad 32 = .ok (.iaload, 1) := by decide +kernel
theorem dX12_layLoad_33 : decode cX12_layLoad 33 = .ok (.istore 7, 2) := by decide +kernel
theorem dX12_layLoad_35 : decode cX12_layLoad 35 = .ok (.aload_n 0, 1) := by decide +kernel
theorem dX12_layLoad_36 : decode cX12_layLoad 36 = .ok (.getfield 24, 3) := by decide +kernel
theorem dX12_layLoad_39 : decode cX12_layLoad 39 = .ok (.bipush 7, 2) := by decide +kernel
theorem dX12_layLoad_41 : decode cX12_layLoad 41 = .ok (.dup2, 1) := by decide +kernel
theorem dX12_layLoad_42 : decode cX12_layLoad 42 = .ok (.iaload, 1) := by decide +kernel
theorem dX12_layLoad_43 : decode cX12_layLoad 43 = .ok (.iconst 1, 1) := by decide +kernel
theorem dX12_layLoad_44 : decode cX12_layLoad 44 = .ok (.iadd, 1) := by decide +kernel
theorem dX12_layLoad_45 : decode cX12_layLoad 45 = .ok (.iastore, 1) := by decide +kernel
theorem dX12_layLoad_46 : decode cX12_layLoad 46 = .ok (.aload_n 0, 1) := by decide +kernel
theorem dX12_layLoad_47 : decode cX12_layLoad 47 = .ok (.iload 7, 2) := by decide +kernel
theorem dX12_layLoad_49 : decode cX12_layLoad 49 = .ok (.iconst 0, 1) := by decide +kernel
theorem dX12_layLoad_50 : decode cX12_layLoad 50 = .ok (.iload_n 1, 1) := by decide +kernel
theorem dX12_layLoad_51 : decode cX12_layLoad 51 = .ok (.invokevirtual 176, 3) := by decide +kernel
theorem dX12_layLoad_54 : decode cX12_layLoad 54 = .ok (.aload_n 0, 1) := by decide +kernel
theorem dX12_layLoad_55 : decode cX12_layLoad 55 = .ok (.iload 7, 2) := by decide +kernel
theorem dX12_layLoad_57 : decode cX12_layLoad 57 = .ok (.iconst 1, 1) := by decide +kernel
theorem dX12_layLoad_58 : decode cX12_layLoad 58 = .ok (.iload_n 2, 1) := by decide +kernel
theorem dX12_layLoad_59 : decode cX12_layLoad 59 = .ok (.invokevirtual 176, 3) := by decide +kernel
theorem dX12_layLoad_62 : decode cX12_layLoad 62 = .ok (.aload_n 0, 1) := by decide +kernel
theorem dX12_layLoad_63 : decode cX12_layLoad 63 = .ok (.iload 7, 2) := by decide +kernel
theorem dX12_layLoad_65 : decode cX12_layLoad 65 = .ok (.iconst 2, 1) := by decide +kernel
theorem dX12_layLoad_66 : decode cX12_layLoad 66 = .ok (.iload_n 3, 1) := by decide +kernel
theorem dX12_layLoad_67 : decode cX12_layLoad 67 = .ok (.invokevirtual 176, 3) := by decide +kernel
theorem dX12_layLoad_70 : decode cX12_layLoad 70 = .ok (.aload_n 0, 1) := by decide +kernel
theorem dX12_layLoad_71 : decode cX12_layLoad 71 = .ok (.iload 7, 2) := by decide +kernel
theorem dX12_layLoad_73 : decode cX12_layLoad 73 = .ok (.iconst 3, 1) := by decide +kernel
theorem dX12_layLoad_74 : decode cX12_layLoad 74 = .ok (.iload 6, 2) := by decide +kernel
theorem dX12_layLoad_76 : decode cX12_layLoad 76 = .ok (.invokevirtual 176, 3) := by decide +kernel
theorem dX12_layLoad_79 : decode cX12_layLoad 79 = .ok (.aload_n 0, 1) := by decide +kernel
theorem dX12_layLoad_80 : decode cX12_layLoad 80 = .ok (.iload 7, 2) := by decide +kernel
theorem dX12_layLoad_82 : decode cX12_layLoad 82 = .ok (.iconst 4, 1) := by decide +kernel
theorem dX12_layLoad_83 : decode cX12_layLoad 83 = .ok (.iload 5, 2) := by decide +kernel
theorem dX12_layLoad_85 : decode cX12_layLoad 85 = .ok (.invokevirtual 176, 3) := by decide +kernel
theorem dX12_layLoad_88 : decode cX12_layLoad 88 = .ok (.aload_n 0, 1) := by decide +kernel
theorem dX12_layLoad_89 : decode cX12_layLoad 89 = .ok (.iload 7, 2) := by decide +kernel
theorem dX12_layLoad_91 : decode cX12_layLoad 91 = .ok (.iconst 5, 1) := by decide +kernel
theorem dX12_layLoad_92 : decode cX12_layLoad 92 = .ok (.iconst (-1), 1) := by decide +kernel
theorem dX12_layLoad_93 : decode cX12_layLoad 93 = .ok (.invokevirtual 176, 3) := by decide +kernel
theorem dX12_layLoad_96 : decode cX12_layLoad 96 = .ok (.aload_n 0, 1) := by decide +kernel
theorem dX12_layLoad_97 : decode cX12_layLoad 97 = .ok (.iload 5, 2) := by decide +kernel
theorem dX12_layLoad_99 : decode cX12_layLoad 99 = .ok (.iconst 2, 1) := by decide +kernel
theorem dX12_layLoad_100 : decode cX12_layLoad 100 = .ok (.iload 4, 2) := by decide +kernel
theorem dX12_layLoad_102 : decode cX12_layLoad 102 = .ok (.invokevirtual 141, 3) := by decide +kernel
theorem dX12_layLoad_105 : decode cX12_layLoad 105 = .ok (.aload_n 0, 1) := by decide +kernel
theorem dX12_layLoad_106 : decode cX12_layLoad 106 = .ok (.iload 5, 2) := by decide +kernel
theorem dX12_layLoad_108 : decode cX12_layLoad 108 = .ok (.iconst 1, 1) := by decide +kernel
theorem dX12_layLoad_109 : decode cX12_layLoad 109 = .ok (.aload_n 0, 1) := by decide +kernel
theorem dX12_layLoad_110 : decode cX12_layLoad 110 = .ok (.iload 5, 2) := by decide +kernel
theorem dX12_layLoad_112 : decode cX12_layLoad 112 = .ok (.iconst 1, 1) := by decide +kernel
theorem dX12_layLoad_113 : decode cX12_layLoad 113 = .ok (.invokevirtual 151, 3) := by decide +kernel
theorem dX12_layLoad_116 : decode cX12_layLoad 116 = .ok (.iload_n 2, 1) := by decide +kernel
theorem dX12_layLoad_117 : decode cX12_layLoad 117 = .ok (.iadd, 1) := by decide +kernel
theorem dX12_layLoad_118 : decode cX12_layLoad 118 = .ok (.invokevirtual 141, 3) := by decide +kernel
theorem dX12_layLoad_121 : decode cX12_layLoad 121 = .ok (.aload_n 0, 1) := by decide +kernel
theorem dX12_layLoad_122 : decode cX12_layLoad 122 = .ok (.iload 5, 2) := by decide +kernel
theorem dX12_layLoad_124 : decode cX12_layLoad 124 = .ok (.iconst 3, 1) := by decide +kernel
theorem dX12_layLoad_125 : decode cX12_layLoad 125 = .ok (.aload_n 0, 1) := by decide +kernel
theorem dX12_layLoad_126 : decode cX12_layLoad 126 = .ok (.iload 5, 2) := by decide +kernel
theorem dX12_layLoad_128 : decode cX12_layLoad 128 = .ok (.iconst 3, 1) := by decide +kernel
theorem dX12_layLoad_129 : decode cX12_layLoad 129 = .ok (.invokevirtual 151, 3) := by decide +kernel
theorem dX12_layLoad_132 : decode cX12_layLoad 132 = .ok (.iload_n 2, 1) := by decide +kernel
theorem dX12_layLoad_133 : decode cX12_layLoad 133 = .ok (.iload_n 3, 1) := by decide +kernel
theorem dX12_layLoad_134 : decode cX12_layLoad 134 = .ok (.imul, 1) := by decide +kernel
theorem dX12_layLoad_135 : decode cX12_layLoad 135 = .ok (.iadd, 1) := by decide +kernel
theorem dX12_layLoad_136 : decode cX12_layLoad 136 = .ok (.invokevirtual 141, 3) := by decide +kernel
theorem dX12_layLoad_139 : decode cX12_layLoad 139 = .ok (.iload 6, 2) := by decide +kernel
theorem dX12_layLoad_141 : decode cX12_layLoad 141 = .ok (.ireturn, 1) := by decide +kernel
theorem dX12_meanIn_0 : decode cX12_meanIn 0 = .ok (.aload_n 0, 1) := by decide +kernel
theorem dX12_meanIn_1 : decode cX12_meanIn 1 = .ok (.iload_n 1, 1) := by decide +kernel
theorem dX12_meanIn_2 : decode cX12_meanIn 2 = .ok (.iconst 1, 1) := by decide +kernel
theorem dX12_meanIn_3 : decode cX12_meanIn 3 = .ok (.invokevirtual 151, 3) := by decide +kernel
theorem dX12_meanIn_6 : decode cX12_meanIn 6 = .ok (.ifCond .ne 7, 3) := by decide +kernel
theorem dX12_meanIn_9 : decode cX12_meanIn 9 = .ok (.iconst 0, 1) := by decide +kernel
theorem dX12_meanIn_10 : decode cX12_meanIn 10 = .ok (.goto 16, 3) := by decide +kernel
theorem dX12_meanIn_13 : decode cX12_meanIn 13 = .ok (.aload_n 0, 1) := by decide +kernel
theorem dX12_meanIn_14 : decode cX12_meanIn 14 = .ok (.iload_n 1, 1) := by decide +kernel
theorem dX12_meanIn_15 : decode cX12_meanIn 15 = .ok (.iconst 3, 1) := by decide +kernel
theorem dX12_meanIn_16 : decode cX12_meanIn 16 = .ok (.invokevirtual 151, 3) := by decide +kernel
theorem dX12_meanIn_19 : decode cX12_meanIn 19 = .ok (.aload_n 0, 1) := by decide +kernel
theorem dX12_meanIn_20 : decode cX12_meanIn 20 = .ok (.iload_n 1, 1) := by decide +kernel
theorem dX12_meanIn_21 : decode cX12_meanIn 21 = .ok (.iconst 1, 1) := by decide +kernel
theorem dX12_meanIn_22 : decode cX12_meanIn 22 = .ok (.invokevirtual 151, 3) := by decide +kernel
theorem dX12_meanIn_25 : decode cX12_meanIn 25 = .ok (.idiv, 1) := by decide +kernel
theorem dX12_meanIn_26 : decode cX12_meanIn 26 = .ok (.ireturn, 1) := by decide +kernel
theorem dX12_varietyOf_0 : decode cX12_varietyOf 0 = .ok (.aload_n 0, 1) := by decide +kernel
theorem dX12_varietyOf_1 : decode cX12_varietyOf 1 = .ok (.aload_n 0, 1) := by decide +kernel
theorem dX12_varietyOf_2 : decode cX12_varietyOf 2 = .ok (.iload_n 1, 1) := by decide +kernel
theorem dX12_varietyOf_3 : decode cX12_varietyOf 3 = .ok (.iconst 0, 1) := by decide +kernel
theorem dX12_varietyOf_4 : decode cX12_varietyOf 4 = .ok (.invokevirtual 148, 3) := by decide +kernel
theorem dX12_varietyOf_7 : decode cX12_varietyOf 7 = .ok (.iconst 1, 1) := by decide +kernel
theorem dX12_varietyOf_8 : decode cX12_varietyOf 8 = .ok (.invokevirtual 144, 3) := by decide +kernel
theorem dX12_varietyOf_11 : decode cX12_varietyOf 11 = .ok (.ireturn, 1) := by decide +kernel
theorem dX12_growerOf_0 : decode cX12_growerOf 0 = .ok (.aload_n 0, 1) := by decide +kernel
theorem dX12_growerOf_1 : decode cX12_growerOf 1 = .ok (.aload_n 0, 1) := by decide +kernel
theorem dX12_growerOf_2 : decode cX12_growerOf 2 = .ok (.iload_n 1, 1) := by decide +kernel
theorem dX12_growerOf_3 : decode cX12_growerOf 3 = .ok (.iconst 0, 1) := by decide +kernel
theorem dX12_growerOf_4 : decode cX12_growerOf 4 = .ok (.invokevirtual 148, 3) := by decide +kernel
theorem dX12_growerOf_7 : decode cX12_growerOf 7 = .ok (.iconst 0, 1) := by decide +kernel
theorem dX12_growerOf_8 : decode cX12_growerOf 8 = .ok (.invokevirtual 144, 3) := by decide +kernel
theorem dX12_growerOf_11 : decode cX12_growerOf 11 = .ok (.ireturn, 1) := by decide +kernel
theorem dX12_isOpen_0 : decode cX12_isOpen 0 = .ok (.aload_n 0, 1) := by decide +kernel
theorem dX12_isOpen_1 : decode cX12_isOpen 1 = .ok (.iload_n 1, 1) := by decide +kernel
theorem dX12_isOpen_2 : decode cX12_isOpen 2 = .ok (.iconst 5, 1) := by decide +kernel
theorem dX12_isOpen_3 : decode cX12_isOpen 3 = .ok (.invokevirtual 148, 3) := by decide +kernel
theorem dX12_isOpen_6 : decode cX12_isOpen 6 = .ok (.iconst (-1), 1) := by decide +kernel
theorem dX12_isOpen_7 : decode cX12_isOpen 7 = .ok (.if_icmp .ne 7, 3) := by decide +kernel
theorem dX12_isOpen_10 : decode cX12_isOpen 10 = .ok (.iconst 1, 1) := by decide +kernel
theorem dX12_isOpen_11 : decode cX12_isOpen 11 = .ok (.goto 4, 3) := by decide +kernel
theorem dX12_isOpen_14 : decode cX12_isOpen 14 = .ok (.iconst 0, 1) := by decide +kernel
theorem dX12_isOpen_15 : decode cX12_isOpen 15 = .ok (.ireturn, 1) := by decide +kernel
theorem dX12_valueNow_0 : decode cX12_valueNow 0 = .ok (.aload_n 0, 1) := by decide +kernel
theorem dX12_valueNow_1 : decode cX12_valueNow 1 = .ok (.iload_n 1, 1) := by decide +kernel
theorem dX12_valueNow_2 : decode cX12_valueNow 2 = .ok (.invokevirtual 179, 3) := by decide +kernel
theorem dX12_valueNow_5 : decode cX12_valueNow 5 = .ok (.ifCond .eq 28, 3) := by decide +kernel
theorem dX12_valueNow_8 : decode cX12_valueNow 8 = .ok (.aload_n 0, 1) := by decide +kernel
theorem dX12_valueNow_9 : decode cX12_valueNow 9 = .ok (.iload_n 1, 1) := by decide +kernel
theorem dX12_valueNow_10 : decode cX12_valueNow 10 = .ok (.iconst 1, 1) := by decide +kernel
theorem dX12_valueNow_11 : decode cX12_valueNow 11 = .ok (.invokevirtual 148, 3) := by decide +kernel
theorem dX12_valueNow_14 : decode cX12_valueNow 14 = .ok (.aload_n 0, 1) := by decide +kernel
theorem dX12_valueNow_15 : decode cX12_valueNow 15 = .ok (.aload_n 0, 1) := by decide +kernel
theorem dX12_valueNow_16 : decode cX12_valueNow 16 = .ok (.iload_n 1, 1) := by decide +kernel
theorem dX12_valueNow_17 : decode cX12_valueNow 17 = .ok (.invokevirtual 183, 3) := by decide +kernel
theorem dX12_valueNow_20 : decode cX12_valueNow 20 = .ok (.aload_n 0, 1) := by decide +kernel
theorem dX12_valueNow_21 : decode cX12_valueNow 21 = .ok (.iload_n 1, 1) := by decide +kernel
theorem dX12_valueNow_22 : decode cX12_valueNow 22 = .ok (.iconst 3, 1) := by decide +kernel
theorem dX12_valueNow_23 : decode cX12_valueNow 23 = .ok (.invokevirtual 148, 3) := by decide +kernel
theorem dX12_valueNow_26 : decode cX12_valueNow 26 = .ok (.invokevirtual 186, 3) := by decide +kernel
theorem dX12_valueNow_29 : decode cX12_valueNow 29 = .ok (.imul, 1) := by decide +kernel
theorem dX12_valueNow_30 : decode cX12_valueNow 30 = .ok (.goto 9, 3) := by decide +kernel
theorem dX12_valueNow_33 : decode cX12_valueNow 33 = .ok (.aload_n 0, 1) := by decide +kernel
theorem dX12_valueNow_34 : decode cX12_valueNow 34 = .ok (.iload_n 1, 1) := by decide +kernel
theorem dX12_valueNow_35 : decode cX12_valueNow 35 = .ok (.iconst 5, 1) := by decide +kernel
theorem dX12_valueNow_36 : decode cX12_valueNow 36 = .ok (.invokevirtual 148, 3) := by decide +kernel
theorem dX12_valueNow_39 : decode cX12_valueNow 39 = .ok (.ireturn, 1) := by decide +kernel
theorem dX12_mayBottle_0 : decode cX12_mayBottle 0 = .ok (.aload_n 0, 1) := by decide +kernel
theorem dX12_mayBottle_1 : decode cX12_mayBottle 1 = .ok (.iload_n 1, 1) := by decide +kernel
theorem dX12_mayBottle_2 : decode cX12_mayBottle 2 = .ok (.iconst 1, 1) := by decide +kernel
theorem dX12_mayBottle_3 : decode cX12_mayBottle 3 = .ok (.invokevirtual 151, 3) := by decide +kernel
theorem dX12_mayBottle_6 : decode cX12_mayBottle 6 = .ok (.iload_n 2, 1) := by decide +kernel
theorem dX12_mayBottle_7 : decode cX12_mayBottle 7 = .ok (.if_icmp .lt 19, 3) := by decide +kernel
theorem dX12_mayBottle_10 : decode cX12_mayBottle 10 = .ok (.aload_n 0, 1) := by decide +kernel
theorem dX12_mayBottle_11 : decode cX12_mayBottle 11 = .ok (.getfield 24, 3) := by decide +kernel
theorem dX12_mayBottle_14 : decode cX12_mayBottle 14 = .ok (.bipush 9, 2) := by decide +kernel
theorem dX12_mayBottle_16 : decode cX12_mayBottle 16 = .ok (.iaload, 1) := by decide +kernel
theorem dX12_mayBottle_17 : decode cX12_mayBottle 17 = .ok (.bipush 12, 2) := by decide +kernel
theorem dX12_mayBottle_19 : decode cX12_mayBottle 19 = .ok (.if_icmp .ge 7, 3) := by decide +kernel
theorem dX12_mayBottle_22 : decode cX12_mayBottle 22 = .ok (.iconst 1, 1) := by decide +kernel
theorem dX12_mayBottle_23 : decode cX12_mayBottle 23 = .ok (.goto 4, 3) := by decide +kernel
theorem dX12_mayBottle_26 : decode cX12_mayBottle 26 = .ok (.iconst 0, 1) := by decide +kernel
theorem dX12_mayBottle_27 : decode cX12_mayBottle 27 = .ok (.ireturn, 1) := by decide +kernel
theorem dX12_empty_0 : decode cX12_empty 0 = .ok (.aload_n 0, 1) := by decide +kernel
theorem dX12_empty_1 : decode cX12_empty 1 = .ok (.iload_n 1, 1) := by decide +kernel
theorem dX12_empty_2 : decode cX12_empty 2 = .ok (.iconst 1, 1) := by decide +kernel
theorem dX12_empty_3 : decode cX12_empty 3 = .ok (.iconst 0, 1) := by decide +kernel
theorem dX12_empty_4 : decode cX12_empty 4 = .ok (.invokevirtual 141, 3) := by decide +kernel
theorem dX12_empty_7 : decode cX12_empty 7 = .ok (.aload_n 0, 1) := by decide +kernel
theorem dX12_empty_8 : decode cX12_empty 8 = .ok (.iload_n 1, 1) := by decide +kernel
theorem dX12_empty_9 : decode cX12_empty 9 = .ok (.iconst 2, 1) := by decide +kernel
theorem dX12_empty_10 : decode cX12_empty 10 = .ok (.iconst (-1), 1) := by decide +kernel
theorem dX12_empty_11 : decode cX12_empty 11 = .ok (.invokevirtual 141, 3) := by decide +kernel
theorem dX12_empty_14 : decode cX12_empty 14 = .ok (.aload_n 0, 1) := by decide +kernel
theorem dX12_empty_15 : decode cX12_empty 15 = .ok (.iload_n 1, 1) := by decide +kernel
theorem dX12_empty_16 : decode cX12_empty 16 = .ok (.iconst 3, 1) := by decide +kernel
theorem dX12_empty_17 : decode cX12_empty 17 = .ok (.iconst 0, 1) := by decide +kernel
theorem dX12_empty_18 : decode cX12_empty 18 = .ok (.invokevirtual 141, 3) := by decide +kernel
theorem dX12_empty_21 : decode cX12_empty 21 = .ok (.return_, 1) := by decide +kernel
theorem dX12_bottleNow_0 : decode cX12_bottleNow 0 = .ok (.aload_n 0, 1) := by decide +kernel
theorem dX12_bottleNow_1 : decode cX12_bottleNow 1 = .ok (.getfield 24, 3) := by decide +kernel
theorem dX12_bottleNow_4 : decode cX12_bottleNow 4 = .ok (.bipush 9, 2) := by decide +kernel
theorem dX12_bottleNow_6 : decode cX12_bottleNow 6 = .ok (.iaload, 1) := by decide +kernel
theorem dX12_bottleNow_7 : decode cX12_bottleNow 7 = .ok (.istore_n 3, 1) := by decide +kernel
theorem dX12_bottleNow_8 : decode cX12_bottleNow 8 = .ok (.aload_n 0, 1) := by decide +kernel
theorem dX12_bottleNow_9 : decode cX12_bottleNow 9 = .ok (.iload_n 1, 1) := by decide +kernel
theorem dX12_bottleNow_10 : decode cX12_bottleNow 10 = .ok (.invokevirtual 189, 3) := by decide +kernel
theorem dX12_bottleNow_13 : decode cX12_bottleNow 13 = .ok (.istore 4, 2) := by decide +kernel
theorem dX12_bottleNow_15 : decode cX12_bottleNow 15 = .ok (.aload_n 0, 1) := by decide +kernel
theorem dX12_bottleNow_16 : decode cX12_bottleNow 16 = .ok (.getfield 24, 3) := by decide +kernel
theorem dX12_bottleNow_19 : decode cX12_bottleNow 19 = .ok (.bipush 9, 2) := by decide +kernel
theorem dX12_bottleNow_21 : decode cX12_bottleNow 21 = .ok (.dup2, 1) := by decide +kernel
theorem dX12_bottleNow_22 : decode cX12_bottleNow 22 = .ok (.iaload, 1) := by decide +kernel
theorem dX12_bottleNow_23 : decode cX12_bottleNow 23 = .ok (.iconst 1, 1) := by decide +kernel
theorem dX12_bottleNow_24 : decode cX12_bottleNow 24 = .ok (.iadd, 1) := by decide +kernel
theorem dX12_bottleNow_25 : decode cX12_bottleNow 25 = .ok (.iastore, 1) := by decide +kernel
theorem dX12_bottleNow_26 : decode cX12_bottleNow 26 = .ok (.aload_n 0, 1) := by decide +kernel
theorem dX12_bottleNow_27 : decode cX12_bottleNow 27 = .ok (.iload_n 3, 1) := by decide +kernel
theorem dX12_bottleNow_28 : decode cX12_bottleNow 28 = .ok (.iconst 0, 1) := by decide +kernel
theorem dX12_bottleNow_29 : decode cX12_bottleNow 29 = .ok (.aload_n 0, 1) := by decide +kernel
theorem dX12_bottleNow_30 : decode cX12_bottleNow 30 = .ok (.iload_n 1, 1) := by decide +kernel
theorem dX12_bottleNow_31 : decode cX12_bottleNow 31 = .ok (.iconst 2, 1) := by decide +kernel
theorem dX12_bottleNow_32 : decode cX12_bottleNow 32 = .ok (.invokevirtual 151, 3) := by decide +kernel
theorem dX12_bottleNow_35 : decode cX12_bottleNow 35 = .ok (.invokevirtual 192, 3) := by decide +kernel
theorem dX12_bottleNow_38 : decode cX12_bottleNow 38 = .ok (.aload_n 0, 1) := by decide +kernel
theorem dX12_bottleNow_39 : decode cX12_bottleNow 39 = .ok (.iload_n 3, 1) := by decide +kernel
theorem dX12_bottleNow_40 : decode cX12_bottleNow 40 = .ok (.iconst 1, 1) := by decide +kernel
theorem dX12_bottleNow_41 : decode cX12_bottleNow 41 = .ok (.iload 4, 2) := by decide +kernel
theorem dX12_bottleNow_43 : decode cX12_bottleNow 43 = .ok (.invokevirtual 192, 3) := by decide +kernel
theorem dX12_bottleNow_46 : decode cX12_bottleNow 46 = .ok (.aload_n 0, 1) := by decide +kernel
theorem dX12_bottleNow_47 : decode cX12_bottleNow 47 = .ok (.iload_n 3, 1) := by decide +kernel
theorem dX12_bottleNow_48 : decode cX12_bottleNow 48 = .ok (.iconst 2, 1) := by decide +kernel
theorem dX12_bottleNow_49 : decode cX12_bottleNow 49 = .ok (.iload_n 2, 1) := by decide +kernel
theorem dX12_bottleNow_50 : decode cX12_bottleNow 50 = .ok (.invokevirtual 192, 3) := by decide +kernel
theorem dX12_bottleNow_53 : decode cX12_bottleNow 53 = .ok (.aload_n 0, 1) := by decide +kernel
theorem dX12_bottleNow_54 : decode cX12_bottleNow 54 = .ok (.iload_n 3, 1) := by decide +kernel
theorem dX12_bottleNow_55 : decode cX12_bottleNow 55 = .ok (.iconst 3, 1) := by decide +kernel
theorem dX12_bottleNow_56 : decode cX12_bottleNow 56 = .ok (.iload_n 2, 1) := by decide +kernel
theorem dX12_bottleNow_57 : decode cX12_bottleNow 57 = .ok (.invokevirtual 192, 3) := by decide +kernel
theorem dX12_bottleNow_60 : decode cX12_bottleNow 60 = .ok (.aload_n 0, 1) := by decide +kernel
theorem dX12_bottleNow_61 : decode cX12_bottleNow 61 = .ok (.iload_n 1, 1) := by decide +kernel
theorem dX12_bottleNow_62 : decode cX12_bottleNow 62 = .ok (.iconst 1, 1) := by decide +kernel
theorem dX12_bottleNow_63 : decode cX12_bottleNow 63 = .ok (.aload_n 0, 1) := by decide +kernel
theorem dX12_bottleNow_64 : decode cX12_bottleNow 64 = .ok (.iload_n 1, 1) := by decide +kernel
theorem dX12_bottleNow_65 : decode cX12_bottleNow 65 = .ok (.iconst 1, 1) := by decide +kernel
theorem dX12_bottleNow_66 : decode cX12_bottleNow 66 = .ok (.invokevirtual 151, 3) := by decide +kernel
theorem dX12_bottleNow_69 : decode cX12_bottleNow 69 = .ok (.iload_n 2, 1) := by decide +kernel
theorem dX12_bottleNow_70 : decode cX12_bottleNow 70 = .ok (.isub, 1) := by decide +kernel
theorem dX12_bottleNow_71 : decode cX12_bottleNow 71 = .ok (.invokevirtual 141, 3) := by decide +kernel
theorem dX12_bottleNow_74 : decode cX12_bottleNow 74 = .ok (.aload_n 0, 1) := by decide +kernel
theorem dX12_bottleNow_75 : decode cX12_bottleNow 75 = .ok (.iload_n 1, 1) := by decide +kernel
theorem dX12_bottleNow_76 : decode cX12_bottleNow 76 = .ok (.iconst 3, 1) := by decide +kernel
theorem dX12_bottleNow_77 : decode cX12_bottleNow 77 = .ok (.aload_n 0, 1) := by decide +kernel
theorem dX12_bottleNow_78 : decode cX12_bottleNow 78 = .ok (.iload_n 1, 1) := by decide +kernel
theorem dX12_bottleNow_79 : decode cX12_bottleNow 79 = .ok (.iconst 3, 1) := by decide +kernel
theorem dX12_bottleNow_80 : decode cX12_bottleNow 80 = .ok (.invokevirtual 151, 3) := by decide +kernel
theorem dX12_bottleNow_83 : decode cX12_bottleNow 83 = .ok (.iload_n 2, 1) := by decide +kernel
theorem dX12_bottleNow_84 : decode cX12_bottleNow 84 = .ok (.iload 4, 2) := by decide +kernel
theorem dX12_bottleNow_86 : decode cX12_bottleNow 86 = .ok (.imul, 1) := by decide +kernel
theorem dX12_bottleNow_87 : decode cX12_bottleNow 87 = .ok (.isub, 1) := by decide +kernel
theorem dX12_bottleNow_88 : decode cX12_bottleNow 88 = .ok (.invokevirtual 141, 3) := by decide +kernel
theorem dX12_bottleNow_91 : decode cX12_bottleNow 91 = .ok (.aload_n 0, 1) := by decide +kernel
theorem dX12_bottleNow_92 : decode cX12_bottleNow 92 = .ok (.iload_n 1, 1) := by decide +kernel
theorem dX12_bottleNow_93 : decode cX12_bottleNow 93 = .ok (.iconst 1, 1) := by decide +kernel
theorem dX12_bottleNow_94 : decode cX12_bottleNow 94 = .ok (.invokevirtual 151, 3) := by decide +kernel
theorem dX12_bottleNow_97 : decode cX12_bottleNow 97 = .ok (.ifCond .ne 8, 3) := by decide +kernel
theorem dX12_bottleNow_100 : decode cX12_bottleNow 100 = .ok (.aload_n 0, 1) := by decide +kernel
theorem dX12_bottleNow_101 : decode cX12_bottleNow 101 = .ok (.iload_n 1, 1) := by decide +kernel
theorem dX12_bottleNow_102 : decode cX12_bottleNow 102 = .ok (.invokevirtual 195, 3) := by decide +kernel
theorem dX12_bottleNow_105 : decode cX12_bottleNow 105 = .ok (.iload_n 3, 1) := by decide +kernel
theorem dX12_bottleNow_106 : decode cX12_bottleNow 106 = .ok (.ireturn, 1) := by decide +kernel
theorem dX12_maySell_0 : decode cX12_maySell 0 = .ok (.aload_n 0, 1) := by decide +kernel
theorem dX12_maySell_1 : decode cX12_maySell 1 = .ok (.iload_n 1, 1) := by decide +kernel
theorem dX12_maySell_2 : decode cX12_maySell 2 = .ok (.iconst 3, 1) := by decide +kernel
theorem dX12_maySell_3 : decode cX12_maySell 3 = .ok (.invokevirtual 198, 3) := by decide +kernel
theorem dX12_maySell_6 : decode cX12_maySell 6 = .ok (.iload_n 2, 1) := by decide +kernel
theorem dX12_maySell_7 : decode cX12_maySell 7 = .ok (.if_icmp .lt 27, 3) := by decide +kernel
theorem dX12_maySell_10 : decode cX12_maySell 10 = .ok (.aload_n 0, 1) := by decide +kernel
theorem dX12_maySell_11 : decode cX12_maySell 11 = .ok (.getfield 24, 3) := by decide +kernel
theorem dX12_maySell_14 : decode cX12_maySell 14 = .ok (.iconst 2, 1) := by decide +kernel
theorem dX12_maySell_15 : decode cX12_maySell 15 = .ok (.iaload, 1) := by decide +kernel
theorem dX12_maySell_16 : decode cX12_maySell 16 = .ok (.i2l, 1) := by decide +kernel
theorem dX12_maySell_17 : decode cX12_maySell 17 = .ok (.iload_n 2, 1) := by decide +kernel
theorem dX12_maySell_18 : decode cX12_maySell 18 = .ok (.i2l, 1) := by decide +kernel
theorem dX12_maySell_19 : decode cX12_maySell 19 = .ok (.iload_n 3, 1) := by decide +kernel
theorem dX12_maySell_20 : decode cX12_maySell 20 = .ok (.i2l, 1) := by decide +kernel
theorem dX12_maySell_21 : decode cX12_maySell 21 = .ok (.lmul, 1) := by decide +kernel
theorem dX12_maySell_22 : decode cX12_maySell 22 = .ok (.ladd, 1) := by decide +kernel
theorem dX12_maySell_23 : decode cX12_maySell 23 = .ok (.ldc2_w 201, 3) := by decide +kernel
theorem dX12_maySell_26 : decode cX12_maySell 26 = .ok (.lcmp, 1) := by decide +kernel
theorem dX12_maySell_27 : decode cX12_maySell 27 = .ok (.ifCond .gt 7, 3) := by decide +kernel
theorem dX12_maySell_30 : decode cX12_maySell 30 = .ok (.iconst 1, 1) := by decide +kernel
theorem dX12_maySell_31 : decode cX12_maySell 31 = .ok (.goto 4, 3) := by decide +kernel
theorem dX12_maySell_34 : decode cX12_maySell 34 = .ok (.iconst 0, 1) := by decide +kernel
theorem dX12_maySell_35 : decode cX12_maySell 35 = .ok (.ireturn, 1) := by decide +kernel
theorem dX12_sellNow_0 : decode cX12_sellNow 0 = .ok (.aload_n 0, 1) := by decide +kernel
theorem dX12_sellNow_1 : decode cX12_sellNow 1 = .ok (.iload_n 1, 1) := by decide +kernel
theorem dX12_sellNow_2 : decode cX12_sellNow 2 = .ok (.iconst 3, 1) := by decide +kernel
theorem dX12_sellNow_3 : decode cX12_sellNow 3 = .ok (.aload_n 0, 1) := by decide +kernel
theorem dX12_sellNow_4 : decode cX12_sellNow 4 = .ok (.iload_n 1, 1) := by decide +kernel
theorem dX12_sellNow_5 : decode cX12_sellNow 5 = .ok (.iconst 3, 1) := by decide +kernel
theorem dX12_sellNow_6 : decode cX12_sellNow 6 = .ok (.invokevirtual 198, 3) := by decide +kernel
theorem dX12_sellNow_9 : decode cX12_sellNow 9 = .ok (.iload_n 2, 1) := by decide +kernel
theorem dX12_sellNow_10 : decode cX12_sellNow 10 = .ok (.isub, 1) := by decide +kernel
theorem dX12_sellNow_11 : decode cX12_sellNow 11 = .ok (.invokevirtual 192, 3) := by decide +kernel
theorem dX12_sellNow_14 : decode cX12_sellNow 14 = .ok (.aload_n 0, 1) := by decide +kernel
theorem dX12_sellNow_15 : decode cX12_sellNow 15 = .ok (.getfield 24, 3) := by decide +kernel
theorem dX12_sellNow_18 : decode cX12_sellNow 18 = .ok (.iconst 2, 1) := by decide +kernel
theorem dX12_sellNow_19 : decode cX12_sellNow 19 = .ok (.dup2, 1) := by decide +kernel
theorem dX12_sellNow_20 : decode cX12_sellNow 20 = .ok (.iaload, 1) := by decide +kernel
theorem dX12_sellNow_21 : decode cX12_sellNow 21 = .ok (.iload_n 2, 1) := by decide +kernel
theorem dX12_sellNow_22 : decode cX12_sellNow 22 = .ok (.iload_n 3, 1) := by decide +kernel
theorem dX12_sellNow_23 : decode cX12_sellNow 23 = .ok (.imul, 1) := by decide +kernel
theorem dX12_sellNow_24 : decode cX12_sellNow 24 = .ok (.iadd, 1) := by decide +kernel
theorem dX12_sellNow_25 : decode cX12_sellNow 25 = .ok (.iastore, 1) := by decide +kernel
theorem dX12_sellNow_26 : decode cX12_sellNow 26 = .ok (.aload_n 0, 1) := by decide +kernel
theorem dX12_sellNow_27 : decode cX12_sellNow 27 = .ok (.getfield 24, 3) := by decide +kernel
theorem dX12_sellNow_30 : decode cX12_sellNow 30 = .ok (.bipush 10, 2) := by decide +kernel
theorem dX12_sellNow_32 : decode cX12_sellNow 32 = .ok (.dup2, 1) := by decide +kernel
theorem dX12_sellNow_33 : decode cX12_sellNow 33 = .ok (.iaload, 1) := by decide +kernel
theorem dX12_sellNow_34 : decode cX12_sellNow 34 = .ok (.iload_n 2, 1) := by decide +kernel
theorem dX12_sellNow_35 : decode cX12_sellNow 35 = .ok (.iload_n 3, 1) := by decide +kernel
theorem dX12_sellNow_36 : decode cX12_sellNow 36 = .ok (.imul, 1) := by decide +kernel
theorem dX12_sellNow_37 : decode cX12_sellNow 37 = .ok (.iadd, 1) := by decide +kernel
theorem dX12_sellNow_38 : decode cX12_sellNow 38 = .ok (.iastore, 1) := by decide +kernel
theorem dX12_sellNow_39 : decode cX12_sellNow 39 = .ok (.aload_n 0, 1) := by decide +kernel
theorem dX12_sellNow_40 : decode cX12_sellNow 40 = .ok (.getfield 24, 3) := by decide +kernel
theorem dX12_sellNow_43 : decode cX12_sellNow 43 = .ok (.iconst 2, 1) := by decide +kernel
theorem dX12_sellNow_44 : decode cX12_sellNow 44 = .ok (.iaload, 1) := by decide +kernel
theorem dX12_sellNow_45 : decode cX12_sellNow 45 = .ok (.ireturn, 1) := by decide +kernel
theorem dX12_payNow_0 : decode cX12_payNow 0 = .ok (.aload_n 0, 1) := by decide +kernel
theorem dX12_payNow_1 : decode cX12_payNow 1 = .ok (.iload_n 1, 1) := by decide +kernel
theorem dX12_payNow_2 : decode cX12_payNow 2 = .ok (.invokevirtual 203, 3) := by decide +kernel
theorem dX12_payNow_5 : decode cX12_payNow 5 = .ok (.istore_n 2, 1) := by decide +kernel
theorem dX12_payNow_6 : decode cX12_payNow 6 = .ok (.aload_n 0, 1) := by decide +kernel
theorem dX12_payNow_7 : decode cX12_payNow 7 = .ok (.iload_n 1, 1) := by decide +kernel
theorem dX12_payNow_8 : decode cX12_payNow 8 = .ok (.iconst 5, 1) := by decide +kernel
theorem dX12_payNow_9 : decode cX12_payNow 9 = .ok (.iload_n 2, 1) := by decide +kernel
theorem dX12_payNow_10 : decode cX12_payNow 10 = .ok (.invokevirtual 176, 3) := by decide +kernel
theorem dX12_payNow_13 : decode cX12_payNow 13 = .ok (.aload_n 0, 1) := by decide +kernel
theorem dX12_payNow_14 : decode cX12_payNow 14 = .ok (.getfield 24, 3) := by decide +kernel
theorem dX12_payNow_17 : decode cX12_payNow 17 = .ok (.iconst 2, 1) := by decide +kernel
theorem dX12_payNow_18 : decode cX12_payNow 18 = .ok (.dup2, 1) := by decide +kernel
theorem dX12_payNow_19 : decode cX12_payNow 19 = .ok (.iaload, 1) := by decide +kernel
theorem dX12_payNow_20 : decode cX12_payNow 20 = .ok (.iload_n 2, 1) := by decide +kernel
theorem dX12_payNow_21 : decode cX12_payNow 21 = .ok (.isub, 1) := by decide +kernel
theorem dX12_payNow_22 : decode cX12_payNow 22 = .ok (.iastore, 1) := by decide +kernel
theorem dX12_payNow_23 : decode cX12_payNow 23 = .ok (.aload_n 0, 1) := by decide +kernel
theorem dX12_payNow_24 : decode cX12_payNow 24 = .ok (.getfield 24, 3) := by decide +kernel
theorem dX12_payNow_27 : decode cX12_payNow 27 = .ok (.bipush 11, 2) := by decide +kernel
theorem dX12_payNow_29 : decode cX12_payNow 29 = .ok (.dup2, 1) := by decide +kernel
theorem dX12_payNow_30 : decode cX12_payNow 30 = .ok (.iaload, 1) := by decide +kernel
theorem dX12_payNow_31 : decode cX12_payNow 31 = .ok (.iload_n 2, 1) := by decide +kernel
theorem dX12_payNow_32 : decode cX12_payNow 32 = .ok (.iadd, 1) := by decide +kernel
theorem dX12_payNow_33 : decode cX12_payNow 33 = .ok (.iastore, 1) := by decide +kernel
theorem dX12_payNow_34 : decode cX12_payNow 34 = .ok (.iload_n 2, 1) := by decide +kernel
theorem dX12_payNow_35 : decode cX12_payNow 35 = .ok (.ireturn, 1) := by decide +kernel
theorem dX12_openOf_0 : decode cX12_openOf 0 = .ok (.iconst 0, 1) := by decide +kernel
theorem dX12_openOf_1 : decode cX12_openOf 1 = .ok (.istore_n 2, 1) := by decide +kernel
theorem dX12_openOf_2 : decode cX12_openOf 2 = .ok (.iconst 0, 1) := by decide +kernel
theorem dX12_openOf_3 : decode cX12_openOf 3 = .ok (.istore_n 3, 1) := by decide +kernel
theorem dX12_openOf_4 : decode cX12_openOf 4 = .ok (.iload_n 3, 1) := by decide +kernel
theorem dX12_openOf_5 : decode cX12_openOf 5 = .ok (.aload_n 0, 1) := by decide +kernel
theorem dX12_openOf_6 : decode cX12_openOf 6 = .ok (.getfield 24, 3) := by decide +kernel
theorem dX12_openOf_9 : decode cX12_openOf 9 = .ok (.bipush 7, 2) := by decide +kernel
theorem dX12_openOf_11 : decode cX12_openOf 11 = .ok (.iaload, 1) := by decide +kernel
theorem dX12_openOf_12 : decode cX12_openOf 12 = .ok (.if_icmp .ge 38, 3) := by decide +kernel
theorem dX12_openOf_15 : decode cX12_openOf 15 = .ok (.iload_n 2, 1) := by decide +kernel
theorem dX12_openOf_16 : decode cX12_openOf 16 = .ok (.aload_n 0, 1) := by decide +kernel
theorem dX12_openOf_17 : decode cX12_openOf 17 = .ok (.iload_n 3, 1) := by decide +kernel
theorem dX12_openOf_18 : decode cX12_openOf 18 = .ok (.invokevirtual 206, 3) := by decide +kernel
theorem dX12_openOf_21 : decode cX12_openOf 21 = .ok (.iload_n 1, 1) := by decide +kernel
theorem dX12_openOf_22 : decode cX12_openOf 22 = .ok (.if_icmp .ne 19, 3) := by decide +kernel
theorem dX12_openOf_25 : decode cX12_openOf 25 = .ok (.aload_n 0, 1) := by decide +kernel
theorem dX12_openOf_26 : decode cX12_openOf 26 = .ok (.iload_n 3, 1) := by decide +kernel
theorem dX12_openOf_27 : decode cX12_openOf 27 = .ok (.invokevirtual 179, 3) := by decide +kernel
theorem dX12_openOf_30 : decode cX12_openOf 30 = .ok (.ifCond .eq 11, 3) := by decide +kernel
theorem dX12_openOf_33 : decode cX12_openOf 33 = .ok (.aload_n 0, 1) := by decide +kernel
theorem dX12_openOf_34 : decode cX12_openOf 34 = .ok (.iload_n 3, 1) := by decide +kernel
theorem dX12_openOf_35 : decode cX12_openOf 35 = .ok (.invokevirtual 203, 3) := by decide +kernel
theorem dX12_openOf_38 : decode cX12_openOf 38 = .ok (.goto 4, 3) := by decide +kernel
theorem dX12_openOf_41 : decode cX12_openOf 41 = .ok (.iconst 0, 1) := by decide +kernel
theorem dX12_openOf_42 : decode cX12_openOf 42 = .ok (.iadd, 1) := by decide +kernel
theorem dX12_openOf_43 : decode cX12_openOf 43 = .ok (.istore_n 2, 1) := by decide +kernel
theorem dX12_openOf_44 : decode cX12_openOf 44 = .ok (.iinc 3 1, 3) := by decide +kernel
theorem dX12_openOf_47 : decode cX12_openOf 47 = .ok (.goto (-43), 3) := by decide +kernel
theorem dX12_openOf_50 : decode cX12_openOf 50 = .ok (.iload_n 2, 1) := by decide +kernel
theorem dX12_openOf_51 : decode cX12_openOf 51 = .ok (.ireturn, 1) := by decide +kernel
theorem dX12_openLoads_0 : decode cX12_openLoads 0 = .ok (.iconst 0, 1) := by decide +kernel
theorem dX12_openLoads_1 : decode cX12_openLoads 1 = .ok (.istore_n 2, 1) := by decide +kernel
theorem dX12_openLoads_2 : decode cX12_openLoads 2 = .ok (.iconst 0, 1) := by decide +kernel
theorem dX12_openLoads_3 : decode cX12_openLoads 3 = .ok (.istore_n 3, 1) := by decide +kernel
theorem dX12_openLoads_4 : decode cX12_openLoads 4 = .ok (.iload_n 3, 1) := by decide +kernel
theorem dX12_openLoads_5 : decode cX12_openLoads 5 = .ok (.aload_n 0, 1) := by decide +kernel
theorem dX12_openLoads_6 : decode cX12_openLoads 6 = .ok (.getfield 24, 3) := by decide +kernel
theorem dX12_openLoads_9 : decode cX12_openLoads 9 = .ok (.bipush 7, 2) := by decide +kernel
theorem dX12_openLoads_11 : decode cX12_openLoads 11 = .ok (.iaload, 1) := by decide +kernel
theorem dX12_openLoads_12 : decode cX12_openLoads 12 = .ok (.if_icmp .ge 34, 3) := by decide +kernel
theorem dX12_openLoads_15 : decode cX12_openLoads 15 = .ok (.iload_n 2, 1) := by decide +kernel
theorem dX12_openLoads_16 : decode cX12_openLoads 16 = .ok (.aload_n 0, 1) := by decide +kernel
theorem dX12_openLoads_17 : decode cX12_openLoads 17 = .ok (.iload_n 3, 1) := by decide +kernel
theorem dX12_openLoads_18 : decode cX12_openLoads 18 = .ok (.invokevirtual 206, 3) := by decide +kernel
theorem dX12_openLoads_21 : decode cX12_openLoads 21 = .ok (.iload_n 1, 1) := by decide +kernel
theorem dX12_openLoads_22 : decode cX12_openLoads 22 = .ok (.if_icmp .ne 15, 3) := by decide +kernel
theorem dX12_openLoads_25 : decode cX12_openLoads 25 = .ok (.aload_n 0, 1) := by decide +kernel
theorem dX12_openLoads_26 : decode cX12_openLoads 26 = .ok (.iload_n 3, 1) := by decide +kernel
theorem dX12_openLoads_27 : decode cX12_openLoads 27 = .ok (.invokevirtual 179, 3) := by decide +kernel
theorem dX12_openLoads_30 : decode cX12_openLoads 30 = .ok (.ifCond .eq 7, 3) := by decide +kernel
theorem dX12_openLoads_33 : decode cX12_openLoads 33 = .ok (.iconst 1, 1) := by decide +kernel
theorem dX12_openLoads_34 : decode cX12_openLoads 34 = .ok (.goto 4, 3) := by decide +kernel
theorem dX12_openLoads_37 : decode cX12_openLoads 37 = .ok (.iconst 0, 1) := by decide +kernel
theorem dX12_openLoads_38 : decode cX12_openLoads 38 = .ok (.iadd, 1) := by decide +kernel
theorem dX12_openLoads_39 : decode cX12_openLoads 39 = .ok (.istore_n 2, 1) := by decide +kernel
theorem dX12_openLoads_40 : decode cX12_openLoads 40 = .ok (.iinc 3 1, 3) := by decide +kernel
theorem dX12_openLoads_43 : decode cX12_openLoads 43 = .ok (.goto (-39), 3) := by decide +kernel
theorem dX12_openLoads_46 : decode cX12_openLoads 46 = .ok (.iload_n 2, 1) := by decide +kernel
theorem dX12_openLoads_47 : decode cX12_openLoads 47 = .ok (.ireturn, 1) := by decide +kernel
theorem dX12_mayPayGrower_0 : decode cX12_mayPayGrower 0 = .ok (.aload_n 0, 1) := by decide +kernel
theorem dX12_mayPayGrower_1 : decode cX12_mayPayGrower 1 = .ok (.iload_n 1, 1) := by decide +kernel
theorem dX12_mayPayGrower_2 : decode cX12_mayPayGrower 2 = .ok (.invokevirtual 209, 3) := by decide +kernel
theorem dX12_mayPayGrower_5 : decode cX12_mayPayGrower 5 = .ok (.ifCond .le 21, 3) := by decide +kernel
theorem dX12_mayPayGrower_8 : decode cX12_mayPayGrower 8 = .ok (.aload_n 0, 1) := by decide +kernel
theorem dX12_mayPayGrower_9 : decode cX12_mayPayGrower 9 = .ok (.iload_n 1, 1) := by decide +kernel
theorem dX12_mayPayGrower_10 : decode cX12_mayPayGrower 10 = .ok (.invokevirtual 212, 3) := by decide +kernel
theorem dX12_mayPayGrower_13 : decode cX12_mayPayGrower 13 = .ok (.aload_n 0, 1) := by decide +kernel
theorem dX12_mayPayGrower_14 : decode cX12_mayPayGrower 14 = .ok (.getfield 24, 3) := by decide +kernel
theorem dX12_mayPayGrower_17 : decode cX12_mayPayGrower 17 = .ok (.iconst 2, 1) := by decide +kernel
theorem dX12_mayPayGrower_18 : decode cX12_mayPayGrower 18 = .ok (.iaload, 1) := by decide +kernel
theorem dX12_mayPayGrower_19 : decode cX12_mayPayGrower 19 = .ok (.if_icmp .gt 7, 3) := by decide +kernel
theorem dX12_mayPayGrower_22 : decode cX12_mayPayGrower 22 = .ok (.iconst 1, 1) := by decide +kernel
theorem dX12_mayPayGrower_23 : decode cX12_mayPayGrower 23 = .ok (.goto 4, 3) := by decide +kernel
theorem dX12_mayPayGrower_26 : decode cX12_mayPayGrower 26 = .ok (.iconst 0, 1) := by decide +kernel
theorem dX12_mayPayGrower_27 : decode cX12_mayPayGrower 27 = .ok (.ireturn, 1) := by decide +kernel
theorem dX12_payAllOf_0 : decode cX12_payAllOf 0 = .ok (.iconst 0, 1) := by decide +kernel
theorem dX12_payAllOf_1 : decode cX12_payAllOf 1 = .ok (.istore_n 2, 1) := by decide +kernel
theorem dX12_payAllOf_2 : decode cX12_payAllOf 2 = .ok (.iconst 0, 1) := by decide +kernel
theorem dX12_payAllOf_3 : decode cX12_payAllOf 3 = .ok (.istore_n 3, 1) := by decide +kernel
theorem dX12_payAllOf_4 : decode cX12_payAllOf 4 = .ok (.iload_n 3, 1) := by decide +kernel
theorem dX12_payAllOf_5 : decode cX12_payAllOf 5 = .ok (.aload_n 0, 1) := by decide +kernel
theorem dX12_payAllOf_6 : decode cX12_payAllOf 6 = .ok (.getfield 24, 3) := by decide +kernel
theorem dX12_payAllOf_9 : decode cX12_payAllOf 9 = .ok (.bipush 7, 2) := by decide +kernel
theorem dX12_payAllOf_11 : decode cX12_payAllOf 11 = .ok (.iaload, 1) := by decide +kernel
theorem dX12_payAllOf_12 : decode cX12_payAllOf 12 = .ok (.if_icmp .ge 38, 3) := by decide +kernel
theorem dX12_payAllOf_15 : decode cX12_payAllOf 15 = .ok (.iload_n 2, 1) := by decide +kernel
theorem dX12_payAllOf_16 : decode cX12_payAllOf 16 = .ok (.aload_n 0, 1) := by decide +kernel
theorem dX12_payAllOf_17 : decode cX12_payAllOf 17 = .ok (.iload_n 3, 1) := by decide +kernel
theorem dX12_payAllOf_18 : decode cX12_payAllOf 18 = .ok (.invokevirtual 206, 3) := by decide +kernel
theorem dX12_payAllOf_21 : decode cX12_payAllOf 21 = .ok (.iload_n 1, 1) := by decide +kernel
theorem dX12_payAllOf_22 : decode cX12_payAllOf 22 = .ok (.if_icmp .ne 19, 3) := by decide +kernel
theorem dX12_payAllOf_25 : decode cX12_payAllOf 25 = .ok (.aload_n 0, 1) := by decide +kernel
theorem dX12_payAllOf_26 : decode cX12_payAllOf 26 = .ok (.iload_n 3, 1) := by decide +kernel
theorem dX12_payAllOf_27 : decode cX12_payAllOf 27 = .ok (.invokevirtual 179, 3) := by decide +kernel
theorem dX12_payAllOf_30 : decode cX12_payAllOf 30 = .ok (.ifCond .eq 11, 3) := by decide +kernel
theorem dX12_payAllOf_33 : decode cX12_payAllOf 33 = .ok (.aload_n 0, 1) := by decide +kernel
theorem dX12_payAllOf_34 : decode cX12_payAllOf 34 = .ok (.iload_n 3, 1) := by decide +kernel
theorem dX12_payAllOf_35 : decode cX12_payAllOf 35 = .ok (.invokevirtual 215, 3) := by decide +kernel
theorem dX12_payAllOf_38 : decode cX12_payAllOf 38 = .ok (.goto 4, 3) := by decide +kernel
theorem dX12_payAllOf_41 : decode cX12_payAllOf 41 = .ok (.iconst 0, 1) := by decide +kernel
theorem dX12_payAllOf_42 : decode cX12_payAllOf 42 = .ok (.iadd, 1) := by decide +kernel
theorem dX12_payAllOf_43 : decode cX12_payAllOf 43 = .ok (.istore_n 2, 1) := by decide +kernel
theorem dX12_payAllOf_44 : decode cX12_payAllOf 44 = .ok (.iinc 3 1, 3) := by decide +kernel
theorem dX12_payAllOf_47 : decode cX12_payAllOf 47 = .ok (.goto (-43), 3) := by decide +kernel
theorem dX12_payAllOf_50 : decode cX12_payAllOf 50 = .ok (.iload_n 2, 1) := by decide +kernel
theorem dX12_payAllOf_51 : decode cX12_payAllOf 51 = .ok (.ireturn, 1) := by decide +kernel
theorem dX12_mayPump_0 : decode cX12_mayPump 0 = .ok (.aload_n 0, 1) := by decide +kernel
theorem dX12_mayPump_1 : decode cX12_mayPump 1 = .ok (.iload_n 2, 1) := by decide +kernel
theorem dX12_mayPump_2 : decode cX12_mayPump 2 = .ok (.iconst 2, 1) := by decide +kernel
theorem dX12_mayPump_3 : decode cX12_mayPump 3 = .ok (.invokevirtual 151, 3) := by decide +kernel
theorem dX12_mayPump_6 : decode cX12_mayPump 6 = .ok (.iconst (-1), 1) := by decide +kernel
theorem dX12_mayPump_7 : decode cX12_mayPump 7 = .ok (.if_icmp .eq 18, 3) := by decide +kernel
theorem dX12_mayPump_10 : decode cX12_mayPump 10 = .ok (.aload_n 0, 1) := by decide +kernel
theorem dX12_mayPump_11 : decode cX12_mayPump 11 = .ok (.iload_n 2, 1) := by decide +kernel
theorem dX12_mayPump_12 : decode cX12_mayPump 12 = .ok (.iconst 2, 1) := by decide +kernel
theorem dX12_mayPump_13 : decode cX12_mayPump 13 = .ok (.invokevirtual 151, 3) := by decide +kernel
theorem dX12_mayPump_16 : decode cX12_mayPump 16 = .ok (.aload_n 0, 1) := by decide +kernel
theorem dX12_mayPump_17 : decode cX12_mayPump 17 = .ok (.iload_n 1, 1) := by decide +kernel
theorem dX12_mayPump_18 : decode cX12_mayPump 18 = .ok (.iconst 2, 1) := by decide +kernel
theorem dX12_mayPump_19 : decode cX12_mayPump 19 = .ok (.invokevirtual 151, 3) := by decide +kernel
theorem dX12_mayPump_22 : decode cX12_mayPump 22 = .ok (.if_icmp .ne 7, 3) := by decide +kernel
theorem dX12_mayPump_25 : decode cX12_mayPump 25 = .ok (.iconst 1, 1) := by decide +kernel
theorem dX12_mayPump_26 : decode cX12_mayPump 26 = .ok (.goto 4, 3) := by decide +kernel
theorem dX12_mayPump_29 : decode cX12_mayPump 29 = .ok (.iconst 0, 1) := by decide +kernel
theorem dX12_mayPump_30 : decode cX12_mayPump 30 = .ok (.istore_n 3, 1) := by decide +kernel
theorem dX12_mayPump_31 : decode cX12_mayPump 31 = .ok (.aload_n 0, 1) := by decide +kernel
theorem dX12_mayPump_32 : decode cX12_mayPump 32 = .ok (.iload_n 1, 1) := by decide +kernel
theorem dX12_mayPump_33 : decode cX12_mayPump 33 = .ok (.iconst 1, 1) := by decide +kernel
theorem dX12_mayPump_34 : decode cX12_mayPump 34 = .ok (.invokevirtual 151, 3) := by decide +kernel
theorem dX12_mayPump_37 : decode cX12_mayPump 37 = .ok (.ifCond .le 25, 3) := by decide +kernel
theorem dX12_mayPump_40 : decode cX12_mayPump 40 = .ok (.iload_n 3, 1) := by decide +kernel
theorem dX12_mayPump_41 : decode cX12_mayPump 41 = .ok (.ifCond .eq 21, 3) := by decide +kernel
theorem dX12_mayPump_44 : decode cX12_mayPump 44 = .ok (.aload_n 0, 1) := by decide +kernel
theorem dX12_mayPump_45 : decode cX12_mayPump 45 = .ok (.iload_n 2, 1) := by decide +kernel
theorem dX12_mayPump_46 : decode cX12_mayPump 46 = .ok (.invokevirtual 154, 3) := by decide +kernel
theorem dX12_mayPump_49 : decode cX12_mayPump 49 = .ok (.aload_n 0, 1) := by decide +kernel
theorem dX12_mayPump_50 : decode cX12_mayPump 50 = .ok (.iload_n 1, 1) := by decide +kernel
theorem dX12_mayPump_51 : decode cX12_mayPump 51 = .ok (.iconst 1, 1) := by decide +kernel
theorem dX12_mayPump_52 : decode cX12_mayPump 52 = .ok (.invokevirtual 151, 3) := by decide +kernel
theorem dX12_mayPump_55 : decode cX12_mayPump 55 = .ok (.if_icmp .lt 7, 3) := by decide +kernel
theorem dX12_mayPump_58 : decode cX12_mayPump 58 = .ok (.iconst 1, 1) := by decide +kernel
theorem dX12_mayPump_59 : decode cX12_mayPump 59 = .ok (.goto 4, 3) := by decide +kernel
theorem dX12_mayPump_62 : decode cX12_mayPump 62 = .ok (.iconst 0, 1) := by decide +kernel
theorem dX12_mayPump_63 : decode cX12_mayPump 63 = .ok (.ireturn, 1) := by decide +kernel
theorem dX12_pumpNow_0 : decode cX12_pumpNow 0 = .ok (.aload_n 0, 1) := by decide +kernel
theorem dX12_pumpNow_1 : decode cX12_pumpNow 1 = .ok (.iload_n 2, 1) := by decide +kernel
theorem dX12_pumpNow_2 : decode cX12_pumpNow 2 = .ok (.iconst 2, 1) := by decide +kernel
theorem dX12_pumpNow_3 : decode cX12_pumpNow 3 = .ok (.aload_n 0, 1) := by decide +kernel
theorem dX12_pumpNow_4 : decode cX12_pumpNow 4 = .ok (.iload_n 1, 1) := by decide +kernel
theorem dX12_pumpNow_5 : decode cX12_pumpNow 5 = .ok (.iconst 2, 1) := by decide +kernel
theorem dX12_pumpNow_6 : decode cX12_pumpNow 6 = .ok (.invokevirtual 151, 3) := by decide +kernel
theorem dX12_pumpNow_9 : decode cX12_pumpNow 9 = .ok (.invokevirtual 141, 3) := by decide +kernel
theorem dX12_pumpNow_12 : decode cX12_pumpNow 12 = .ok (.aload_n 0, 1) := by decide +kernel
theorem dX12_pumpNow_13 : decode cX12_pumpNow 13 = .ok (.iload_n 2, 1) := by decide +kernel
theorem dX12_pumpNow_14 : decode cX12_pumpNow 14 = .ok (.iconst 1, 1) := by decide +kernel
theorem dX12_pumpNow_15 : decode cX12_pumpNow 15 = .ok (.aload_n 0, 1) := by decide +kernel
theorem dX12_pumpNow_16 : decode cX12_pumpNow 16 = .ok (.iload_n 2, 1) := by decide +kernel
theorem dX12_pumpNow_17 : decode cX12_pumpNow 17 = .ok (.iconst 1, 1) := by decide +kernel
theorem dX12_pumpNow_18 : decode cX12_pumpNow 18 = .ok (.invokevirtual 151, 3) := by decide +kernel
theorem dX12_pumpNow_21 : decode cX12_pumpNow 21 = .ok (.aload_n 0, 1) := by decide +kernel
theorem dX12_pumpNow_22 : decode cX12_pumpNow 22 = .ok (.iload_n 1, 1) := by decide +kernel
theorem dX12_pumpNow_23 : decode cX12_pumpNow 23 = .ok (.iconst 1, 1) := by decide +kernel
theorem dX12_pumpNow_24 : decode cX12_pumpNow 24 = .ok (.invokevirtual 151, 3) := by decide +kernel
theorem dX12_pumpNow_27 : decode cX12_pumpNow 27 = .ok (.iadd, 1) := by decide +kernel
theorem dX12_pumpNow_28 : decode cX12_pumpNow 28 = .ok (.invokevirtual 141, 3) := by decide +kernel
theorem dX12_pumpNow_31 : decode cX12_pumpNow 31 = .ok (.aload_n 0, 1) := by decide +kernel
theorem dX12_pumpNow_32 : decode cX12_pumpNow 32 = .ok (.iload_n 2, 1) := by decide +kernel
theorem dX12_pumpNow_33 : decode cX12_pumpNow 33 = .ok (.iconst 3, 1) := by decide +kernel
theorem dX12_pumpNow_34 : decode cX12_pumpNow 34 = .ok (.aload_n 0, 1) := by decide +kernel
theorem dX12_pumpNow_35 : decode cX12_pumpNow 35 = .ok (.iload_n 2, 1) := by decide +kernel
theorem dX12_pumpNow_36 : decode cX12_pumpNow 36 = .ok (.iconst 3, 1) := by decide +kernel
theorem dX12_pumpNow_37 : decode cX12_pumpNow 37 = .ok (.invokevirtual 151, 3) := by decide +kernel
theorem dX12_pumpNow_40 : decode cX12_pumpNow 40 = .ok (.aload_n 0, 1) := by decide +kernel
theorem dX12_pumpNow_41 : decode cX12_pumpNow 41 = .ok (.iload_n 1, 1) := by decide +kernel
theorem dX12_pumpNow_42 : decode cX12_pumpNow 42 = .ok (.iconst 3, 1) := by decide +kernel
theorem dX12_pumpNow_43 : decode cX12_pumpNow 43 = .ok (.invokevirtual 151, 3) := by decide +kernel
theorem dX12_pumpNow_46 : decode cX12_pumpNow 46 = .ok (.iadd, 1) := by decide +kernel
theorem dX12_pumpNow_47 : decode cX12_pumpNow 47 = .ok (.invokevirtual 141, 3) := by decide +kernel
theorem dX12_pumpNow_50 : decode cX12_pumpNow 50 = .ok (.aload_n 0, 1) := by decide +kernel
theorem dX12_pumpNow_51 : decode cX12_pumpNow 51 = .ok (.iload_n 1, 1) := by decide +kernel
theorem dX12_pumpNow_52 : decode cX12_pumpNow 52 = .ok (.invokevirtual 195, 3) := by decide +kernel
theorem dX12_pumpNow_55 : decode cX12_pumpNow 55 = .ok (.aload_n 0, 1) := by decide +kernel
theorem dX12_pumpNow_56 : decode cX12_pumpNow 56 = .ok (.iload_n 2, 1) := by decide +kernel
theorem dX12_pumpNow_57 : decode cX12_pumpNow 57 = .ok (.iconst 1, 1) := by decide +kernel
theorem dX12_pumpNow_58 : decode cX12_pumpNow 58 = .ok (.invokevirtual 151, 3) := by decide +kernel
theorem dX12_pumpNow_61 : decode cX12_pumpNow 61 = .ok (.ireturn, 1) := by decide +kernel
theorem dX12_byteAt_0 : decode cX12_byteAt 0 = .ok (.iload_n 1, 1) := by decide +kernel
theorem dX12_byteAt_1 : decode cX12_byteAt 1 = .ok (.aload_n 0, 1) := by decide +kernel
theorem dX12_byteAt_2 : decode cX12_byteAt 2 = .ok (.getfield 218, 3) := by decide +kernel
theorem dX12_byteAt_5 : decode cX12_byteAt 5 = .ok (.if_icmp .ge 16, 3) := by decide +kernel
theorem dX12_byteAt_8 : decode cX12_byteAt 8 = .ok (.aload_n 0, 1) := by decide +kernel
theorem dX12_byteAt_9 : decode cX12_byteAt 9 = .ok (.getfield 27, 3) := by decide +kernel
theorem dX12_byteAt_12 : decode cX12_byteAt 12 = .ok (.iload_n 1, 1) := by decide +kernel
theorem dX12_byteAt_13 : decode cX12_byteAt 13 = .ok (.baload, 1) := by decide +kernel
theorem dX12_byteAt_14 : decode cX12_byteAt 14 = .ok (.sipush 255, 3) := by decide +kernel
theorem dX12_byteAt_17 : decode cX12_byteAt 17 = .ok (.iand, 1) := by decide +kernel
theorem dX12_byteAt_18 : decode cX12_byteAt 18 = .ok (.goto 4, 3) := by decide +kernel
theorem dX12_byteAt_21 : decode cX12_byteAt 21 = .ok (.iconst (-1), 1) := by decide +kernel
theorem dX12_byteAt_22 : decode cX12_byteAt 22 = .ok (.ireturn, 1) := by decide +kernel
theorem dX12_isLetter_0 : decode cX12_isLetter 0 = .ok (.iload_n 0, 1) := by decide +kernel
theorem dX12_isLetter_1 : decode cX12_isLetter 1 = .ok (.bipush 97, 2) := by decide +kernel
theorem dX12_isLetter_3 : decode cX12_isLetter 3 = .ok (.if_icmp .lt 13, 3) := by decide +kernel
theorem dX12_isLetter_6 : decode cX12_isLetter 6 = .ok (.iload_n 0, 1) := by decide +kernel
theorem dX12_isLetter_7 : decode cX12_isLetter 7 = .ok (.bipush 122, 2) := by decide +kernel
theorem dX12_isLetter_9 : decode cX12_isLetter 9 = .ok (.if_icmp .gt 7, 3) := by decide +kernel
theorem dX12_isLetter_12 : decode cX12_isLetter 12 = .ok (.iconst 1, 1) := by decide +kernel
theorem dX12_isLetter_13 : decode cX12_isLetter 13 = .ok (.goto 4, 3) := by decide +kernel
theorem dX12_isLetter_16 : decode cX12_isLetter 16 = .ok (.iconst 0, 1) := by decide +kernel
theorem dX12_isLetter_17 : decode cX12_isLetter 17 = .ok (.ireturn, 1) := by decide +kernel
theorem dX12_isDigit_0 : decode cX12_isDigit 0 = .ok (.iload_n 0, 1) := by decide +kernel
theorem dX12_isDigit_1 : decode cX12_isDigit 1 = .ok (.bipush 48, 2) := by decide +kernel
theorem dX12_isDigit_3 : decode cX12_isDigit 3 = .ok (.if_icmp .lt 13, 3) := by decide +kernel
theorem dX12_isDigit_6 : decode cX12_isDigit 6 = .ok (.iload_n 0, 1) := by decide +kernel
theorem dX12_isDigit_7 : decode cX12_isDigit 7 = .ok (.bipush 57, 2) := by decide +kernel
theorem dX12_isDigit_9 : decode cX12_isDigit 9 = .ok (.if_icmp .gt 7, 3) := by decide +kernel
theorem dX12_isDigit_12 : decode cX12_isDigit 12 = .ok (.iconst 1, 1) := by decide +kernel
theorem dX12_isDigit_13 : decode cX12_isDigit 13 = .ok (.goto 4, 3) := by decide +kernel
theorem dX12_isDigit_16 : decode cX12_isDigit 16 = .ok (.iconst 0, 1) := by decide +kernel
theorem dX12_isDigit_17 : decode cX12_isDigit 17 = .ok (.ireturn, 1) := by decide +kernel
theorem dX12_goOn_0 : decode cX12_goOn 0 = .ok (.aload_n 0, 1) := by decide +kernel
theorem dX12_goOn_1 : decode cX12_goOn 1 = .ok (.aload_n 0, 1) := by decide +kernel
theorem dX12_goOn_2 : decode cX12_goOn 2 = .ok (.getfield 221, 3) := by decide +kernel
theorem dX12_goOn_5 : decode cX12_goOn 5 = .ok (.invokevirtual 224, 3) := by decide +kernel
theorem dX12_goOn_8 : decode cX12_goOn 8 = .ok (.bipush 32, 2) := by decide +kernel
theorem dX12_goOn_10 : decode cX12_goOn 10 = .ok (.if_icmp .eq 16, 3) := by decide +kernel
theorem dX12_goOn_13 : decode cX12_goOn 13 = .ok (.aload_n 0, 1) := by decide +kernel
theorem dX12_goOn_14 : decode cX12_goOn 14 = .ok (.aload_n 0, 1) := by decide +kernel
theorem dX12_goOn_15 : decode cX12_goOn 15 = .ok (.getfield 221, 3) := by decide +kernel
theorem dX12_goOn_18 : decode cX12_goOn 18 = .ok (.invokevirtual 224, 3) := by decide +kernel
theorem dX12_goOn_21 : decode cX12_goOn 21 = .ok (.bipush 10, 2) := by decide +kernel
theorem dX12_goOn_23 : decode cX12_goOn 23 = .ok (.if_icmp .ne 16, 3) := by decide +kernel
theorem dX12_goOn_26 : decode cX12_goOn 26 = .ok (.aload_n 0, 1) := by decide +kernel
theorem dX12_goOn_27 : decode cX12_goOn 27 = .ok (.dup, 1) := by decide +kernel
theorem dX12_goOn_28 : decode cX12_goOn 28 = .ok (.getfield 221, 3) := by decide +kernel
theorem dX12_goOn_31 : decode cX12_goOn 31 = .ok (.iconst 1, 1) := by decide +kernel
theorem dX12_goOn_32 : decode cX12_goOn 32 = .ok (.iadd, 1) := by decide +kernel
theorem dX12_goOn_33 : decode cX12_goOn 33 = .ok (.putfield 221, 3) := by decide +kernel
theorem dX12_goOn_36 : decode cX12_goOn 36 = .ok (.goto (-36), 3) := by decide +kernel
theorem dX12_goOn_39 : decode cX12_goOn 39 = .ok (.aload_n 0, 1) := by decide +kernel
theorem dX12_goOn_40 : decode cX12_goOn 40 = .ok (.aload_n 0, 1) := by decide +kernel
theorem dX12_goOn_41 : decode cX12_goOn 41 = .ok (.getfield 221, 3) := by decide +kernel
theorem dX12_goOn_44 : decode cX12_goOn 44 = .ok (.putfield 227, 3) := by decide +kernel
theorem dX12_goOn_47 : decode cX12_goOn 47 = .ok (.aload_n 0, 1) := by decide +kernel
theorem dX12_goOn_48 : decode cX12_goOn 48 = .ok (.iconst 0, 1) := by decide +kernel
theorem dX12_goOn_49 : decode cX12_goOn 49 = .ok (.putfield 230, 3) := by decide +kernel
theorem dX12_goOn_52 : decode cX12_goOn 52 = .ok (.aload_n 0, 1) := by decide +kernel
theorem dX12_goOn_53 : decode cX12_goOn 53 = .ok (.lconst 0, 1) := by decide +kernel
theorem dX12_goOn_54 : decode cX12_goOn 54 = .ok (.putfield 233, 3) := by decide +kernel
theorem dX12_goOn_57 : decode cX12_goOn 57 = .ok (.aload_n 0, 1) := by decide +kernel
theorem dX12_goOn_58 : decode cX12_goOn 58 = .ok (.iconst 0, 1) := by decide +kernel
theorem dX12_goOn_59 : decode cX12_goOn 59 = .ok (.putfield 236, 3) := by decide +kernel
theorem dX12_goOn_62 : decode cX12_goOn 62 = .ok (.aload_n 0, 1) := by decide +kernel
theorem dX12_goOn_63 : decode cX12_goOn 63 = .ok (.aload_n 0, 1) := by decide +kernel
theorem dX12_goOn_64 : decode cX12_goOn 64 = .ok (.getfield 221, 3) := by decide +kernel
theorem dX12_goOn_67 : decode cX12_goOn 67 = .ok (.invokevirtual 224, 3) := by decide +kernel
theorem dX12_goOn_70 : decode cX12_goOn 70 = .ok (.istore_n 1, 1) := by decide +kernel
theorem dX12_goOn_71 : decode cX12_goOn 71 = .ok (.iload_n 1, 1) := by decide +kernel
theorem dX12_goOn_72 : decode cX12_goOn 72 = .ok (.iconst (-1), 1) := by decide +kernel
theorem dX12_goOn_73 : decode cX12_goOn 73 = .ok (.if_icmp .ne 11, 3) := by decide +kernel
theorem dX12_goOn_76 : decode cX12_goOn 76 = .ok (.aload_n 0, 1) := by decide +kernel
theorem dX12_goOn_77 : decode cX12_goOn 77 = .ok (.iconst 0, 1) := by decide +kernel
theorem dX12_goOn_78 : decode cX12_goOn 78 = .ok (.putfield 239, 3) := by decide +kernel
theorem dX12_goOn_81 : decode cX12_goOn 81 = .ok (.goto 191, 3) := by decide +kernel
theorem dX12_goOn_84 : decode cX12_goOn 84 = .ok (.iload_n 1, 1) := by decide +kernel
theorem dX12_goOn_85 : decode cX12_goOn 85 = .ok (.invokestatic 242, 3) := by decide +kernel
theorem dX12_goOn_88 : decode cX12_goOn 88 = .ok (.ifCond .eq 88, 3) := by decide +kernel
theorem dX12_goOn_91 : decode cX12_goOn 91 = .ok (.aload_n 0, 1) := by decide +kernel
theorem dX12_goOn_92 : decode cX12_goOn 92 = .ok (.iconst 1, 1) := by decide +kernel
theorem dX12_goOn_93 : decode cX12_goOn 93 = .ok (.putfield 239, 3) := by decide +kernel
theorem dX12_goOn_96 : decode cX12_goOn 96 = .ok (.aload_n 0, 1) := by decide +kernel
theorem dX12_goOn_97 : decode cX12_goOn 97 = .ok (.aload_n 0, 1) := by decide +kernel
theorem dX12_goOn_98 : decode cX12_goOn 98 = .ok (.getfield 221, 3) := by decide +kernel
theorem dX12_goOn_101 : decode cX12_goOn 101 = .ok (.invokevirtual 224, 3) := by decide +kernel
theorem dX12_goOn_104 : decode cX12_goOn 104 = .ok (.invokestatic 242, 3) := by decide +kernel
theorem dX12_goOn_107 : decode cX12_goOn 107 = .ok (.ifCond .eq 165, 3) := by decide +kernel
theorem dX12_goOn_110 : decode cX12_goOn 110 = .ok (.aload_n 0, 1) := by decide +kernel
theorem dX12_goOn_111 : decode cX12_goOn 111 = .ok (.aload_n 0, 1) := by decide +kernel
theorem dX12_goOn_112 : decode cX12_goOn 112 = .ok (.getfield 230, 3) := by decide +kernel
theorem dX12_goOn_115 : decode cX12_goOn 115 = .ok (.bipush 12, 2) := by decide +kernel
theorem dX12_goOn_117 : decode cX12_goOn 117 = .ok (.if_icmp .ge 30, 3) := by decide +kernel
theorem dX12_goOn_120 : decode cX12_goOn 120 = .ok (.ldc2_w 245, 3) := by decide +kernel
theorem dX12_goOn_123 : decode cX12_goOn 123 = .ok (.aload_n 0, 1) := by decide +kernel
theorem dX12_goOn_124 : decode cX12_goOn 124 = .ok (.getfield 233, 3) := by decide +kernel
theorem dX12_goOn_127 : decode cX12_goOn 127 = .ok (.lmul, 1) := by decide +kernel
theorem dX12_goOn_128 : decode cX12_goOn 128 = .ok (.aload_n 0, 1) := by decide +kernel
theorem dX12_goOn_129 : decode cX12_goOn 129 = .ok (.aload_n 0, 1) := by decide +kernel
theorem dX12_goOn_130 : decode cX12_goOn 130 = .ok (.getfield 221, 3) := by decide +kernel
theorem dX12_goOn_133 : decode cX12_goOn 133 = .ok (.invokevirtual 224, 3) := by decide +kernel
theorem dX12_goOn_136 : decode cX12_goOn 136 = .ok (.i2l, 1) := by decide +kernel
theorem dX12_goOn_137 : decode cX12_goOn 137 = .ok (.ladd, 1) := by decide +kernel
theorem dX12_goOn_138 : decode cX12_goOn 138 = .ok (.ldc2_w 247, 3) := by decide +kernel
theorem dX12_goOn_141 : decode cX12_goOn 141 = .ok (.lsub, 1) := by decide +kernel
theorem dX12_goOn_142 : decode cX12_goOn 142 = .ok (.lconst 1, 1) := by decide +kernel
theorem dX12_goOn_143 : decode cX12_goOn 143 = .ok (.ladd, 1) := by decide +kernel
theorem dX12_goOn_144 : decode cX12_goOn 144 = .ok (.goto 6, 3) := by decide +kernel
theorem dX12_goOn_147 : decode cX12_goOn 147 = .ok (.ldc2_w 249, 3) := by decide +kernel
theorem dX12_goOn_150 : decode cX12_goOn 150 = .ok (.putfield 233, 3) := by decide +kernel
theorem dX12_goOn_153 : decode cX12_goOn 153 = .ok (.aload_n 0, 1) := by decide +kernel
theorem dX12_goOn_154 : decode cX12_goOn 154 = .ok (.dup, 1) := by decide +kernel
theorem dX12_goOn_155 : decode cX12_goOn 155 = .ok (.getfield 230, 3) := by decide +kernel
theorem dX12_goOn_158 : decode cX12_goOn 158 = .ok (.iconst 1, 1) := by decide +kernel
theorem dX12_goOn_159 : decode cX12_goOn 159 = .ok (.iadd, 1) := by decide +kernel
theorem dX12_goOn_160 : decode cX12_goOn 160 = .ok (.putfield 230, 3) := by decide +kernel
theorem dX12_goOn_163 : decode cX12_goOn 163 = .ok (.aload_n 0, 1) := by decide +kernel
theorem dX12_goOn_164 : decode cX12_goOn 164 = .ok (.dup, 1) := by decide +kernel
theorem dX12_goOn_165 : decode cX12_goOn 165 = .ok (.getfield 221, 3) := by decide +kernel
theorem dX12_goOn_168 : decode cX12_goOn 168 = .ok (.iconst 1, 1) := by decide +kernel
theorem dX12_goOn_169 : decode cX12_goOn 169 = .ok (.iadd, 1) := by decide +kernel
theorem dX12_goOn_170 : decode cX12_goOn 170 = .ok (.putfield 221, 3) := by decide +kernel
theorem dX12_goOn_173 : decode cX12_goOn 173 = .ok (.goto (-77), 3) := by decide +kernel
theorem dX12_goOn_176 : decode cX12_goOn 176 = .ok (.iload_n 1, 1) := by decide +kernel
theorem dX12_goOn_177 : decode cX12_goOn 177 = .ok (.invokestatic 251, 3) := by decide +kernel
theorem dX12_goOn_180 : decode cX12_goOn 180 = .ok (.ifCond .eq 72, 3) := by decide +kernel
theorem dX12_goOn_183 : decode cX12_goOn 183 = .ok (.aload_n 0, 1) := by decide +kernel
theorem dX12_goOn_184 : decode cX12_goOn 184 = .ok (.iconst 2, 1) := by decide +kernel
theorem dX12_goOn_185 : decode cX12_goOn 185 = .ok (.putfield 239, 3) := by decide +kernel
theorem dX12_goOn_188 : decode cX12_goOn 188 = .ok (.aload_n 0, 1) := by decide +kernel
theorem dX12_goOn_189 : decode cX12_goOn 189 = .ok (.aload_n 0, 1) := by decide +kernel
theorem dX12_goOn_190 : decode cX12_goOn 190 = .ok (.getfield 221, 3) := by decide +kernel
theorem dX12_goOn_193 : decode cX12_goOn 193 = .ok (.invokevirtual 224, 3) := by decide +kernel
theorem dX12_goOn_196 : decode cX12_goOn 196 = .ok (.invokestatic 251, 3) := by decide +kernel
theorem dX12_goOn_199 : decode cX12_goOn 199 = .ok (.ifCond .eq 73, 3) := by decide +kernel
theorem dX12_goOn_202 : decode cX12_goOn 202 = .ok (.aload_n 0, 1) := by decide +kernel
theorem dX12_goOn_203 : decode cX12_goOn 203 = .ok (.aload_n 0, 1) := by decide +kernel
theorem dX12_goOn_204 : decode cX12_goOn 204 = .ok (.getfield 236, 3) := by decide +kernel
theorem dX12_goOn_207 : decode cX12_goOn 207 = .ok (.ldc 254, 2) := by decide +kernel
theorem dX12_goOn_209 : decode cX12_goOn 209 = .ok (.if_icmp .le 8, 3) := by decide +kernel
theorem dX12_goOn_212 : decode cX12_goOn 212 = .ok (.ldc 255, 2) := by decide +kernel
theorem dX12_goOn_214 : decode cX12_goOn 214 = .ok (.goto 22, 3) := by decide +kernel
theorem dX12_goOn_217 : decode cX12_goOn 217 = .ok (.bipush 10, 2) := by decide +kernel
theorem dX12_goOn_219 : decode cX12_goOn 219 = .ok (.aload_n 0, 1) := by decide +kernel
theorem dX12_goOn_220 : decode cX12_goOn 220 = .ok (.getfield 236, 3) := by decide +kernel
theorem dX12_goOn_223 : decode cX12_goOn 223 = .ok (.imul, 1) := by decide +kernel
theorem dX12_goOn_224 : decode cX12_goOn 224 = .ok (.aload_n 0, 1) := by decide +kernel
theorem dX12_goOn_225 : decode cX12_goOn 225 = .ok (.aload_n 0, 1) := by decide +kernel
theorem dX12_goOn_226 : decode cX12_goOn 226 = .ok (.getfield 221, 3) := by decide +kernel
theorem dX12_goOn_229 : decode cX12_goOn 229 = .ok (.invokevirtual 224, 3) := by decide +kernel
theorem dX12_goOn_232 : decode cX12_goOn 232 = .ok (.iadd, 1) := by decide +kernel
theorem dX12_goOn_233 : decode cX12_goOn 233 = .ok (.bipush 48, 2) := by decide +kernel
theorem dX12_goOn_235 : decode cX12_goOn 235 = .ok (.isub, 1) := by decide +kernel
theorem dX12_goOn_236 : decode cX12_goOn 236 = .ok (.putfield 236, 3) := by decide +kernel
theorem dX12_goOn_239 : decode cX12_goOn 239 = .ok (.aload_n 0, 1) := by decide +kernel
theorem dX12_goOn_240 : decode cX12_goOn 240 = .ok (.dup, 1) := by decide +kernel
theorem dX12_goOn_241 : decode cX12_goOn 241 = .ok (.getfield 221, 3) := by decide +kernel
theorem dX12_goOn_244 : decode cX12_goOn 244 = .ok (.iconst 1, 1) := by decide +kernel
theorem dX12_goOn_245 : decode cX12_goOn 245 = .ok (.iadd, 1) := by decide +kernel
theorem dX12_goOn_246 : decode cX12_goOn 246 = .ok (.putfield 221, 3) := by decide +kernel
theorem dX12_goOn_249 : decode cX12_goOn 249 = .ok (.goto (-61), 3) := by decide +kernel
theorem dX12_goOn_252 : decode cX12_goOn 252 = .ok (.aload_n 0, 1) := by decide +kernel
theorem dX12_goOn_253 : decode cX12_goOn 253 = .ok (.iconst 3, 1) := by decide +kernel
theorem dX12_goOn_254 : decode cX12_goOn 254 = .ok (.putfield 239, 3) := by decide +kernel
theorem dX12_goOn_257 : decode cX12_goOn 257 = .ok (.aload_n 0, 1) := by decide +kernel
theorem dX12_goOn_258 : decode cX12_goOn 258 = .ok (.iload_n 1, 1) := by decide +kernel
theorem dX12_goOn_259 : decode cX12_goOn 259 = .ok (.putfield 236, 3) := by decide +kernel
theorem dX12_goOn_262 : decode cX12_goOn 262 = .ok (.aload_n 0, 1) := by decide +kernel
theorem dX12_goOn_263 : decode cX12_goOn 263 = .ok (.dup, 1) := by decide +kernel
theorem dX12_goOn_264 : decode cX12_goOn 264 = .ok (.getfield 221, 3) := by decide +kernel
theorem dX12_goOn_267 : decode cX12_goOn 267 = .ok (.iconst 1, 1) := by decide +kernel
theorem dX12_goOn_268 : decode cX12_goOn 268 = .ok (.iadd, 1) := by decide +kernel
theorem dX12_goOn_269 : decode cX12_goOn 269 = .ok (.putfield 221, 3) := by decide +kernel
theorem dX12_goOn_272 : decode cX12_goOn 272 = .ok (.return_, 1) := by decide +kernel
theorem dX12_startText_0 : decode cX12_startText 0 = .ok (.aload_n 0, 1) := by decide +kernel
theorem dX12_startText_1 : decode cX12_startText 1 = .ok (.iconst 0, 1) := by decide +kernel
theorem dX12_startText_2 : decode cX12_startText 2 = .ok (.putfield 221, 3) := by decide +kernel
theorem dX12_startText_5 : decode cX12_startText 5 = .ok (.aload_n 0, 1) := by decide +kernel
theorem dX12_startText_6 : decode cX12_startText 6 = .ok (.iconst 0, 1) := by decide +kernel
theorem dX12_startText_7 : decode cX12_startText 7 = .ok (.putfield 256, 3) := by decide +kernel
theorem dX12_startText_10 : decode cX12_startText 10 = .ok (.aload_n 0, 1) := by decide +kernel
theorem dX12_startText_11 : decode cX12_startText 11 = .ok (.invokevirtual 259, 3) := by decide +kernel
theorem dX12_startText_14 : decode cX12_startText 14 = .ok (.return_, 1) := by decide +kernel
theorem dX12_fault_0 : decode cX12_fault 0 = .ok (.aload_n 0, 1) := by decide +kernel
theorem dX12_fault_1 : decode cX12_fault 1 = .ok (.getfield 256, 3) := by decide +kernel
theorem dX12_fault_4 : decode cX12_fault 4 = .ok (.ifCond .ne 16, 3) := by decide +kernel
theorem dX12_fault_7 : decode cX12_fault 7 = .ok (.aload_n 0, 1) := by decide +kernel
theorem dX12_fault_8 : decode cX12_fault 8 = .ok (.iload_n 1, 1) := by decide +kernel
theorem dX12_fault_9 : decode cX12_fault 9 = .ok (.putfield 256, 3) := by decide +kernel
theorem dX12_fault_12 : decode cX12_fault 12 = .ok (.aload_n 0, 1) := by decide +kernel
theorem dX12_fault_13 : decode cX12_fault 13 = .ok (.aload_n 0, 1) := by decide +kernel
theorem dX12_fault_14 : decode cX12_fault 14 = .ok (.getfield 227, 3) := by decide +kernel
theorem dX12_fault_17 : decode cX12_fault 17 = .ok (.putfield 262, 3) := by decide +kernel
theorem dX12_fault_20 : decode cX12_fault 20 = .ok (.return_, 1) := by decide +kernel
theorem dX12_isGood_0 : decode cX12_isGood 0 = .ok (.aload_n 0, 1) := by decide +kernel
theorem dX12_isGood_1 : decode cX12_isGood 1 = .ok (.getfield 256, 3) := by decide +kernel
theorem dX12_isGood_4 : decode cX12_isGood 4 = .ok (.ifCond .ne 7, 3) := by decide +kernel
theorem dX12_isGood_7 : decode cX12_isGood 7 = .ok (.iconst 1, 1) := by decide +kernel
theorem dX12_isGood_8 : decode cX12_isGood 8 = .ok (.goto 4, 3) := by decide +kernel
theorem dX12_isGood_11 : decode cX12_isGood 11 = .ok (.iconst 0, 1) := by decide +kernel
theorem dX12_isGood_12 : decode cX12_isGood 12 = .ok (.ireturn, 1) := by decide +kernel
theorem dX12_spell_0 : decode cX12_spell 0 = .ok (.lconst 0, 1) := by decide +kernel
theorem dX12_spell_1 : decode cX12_spell 1 = .ok (.lstore_n 1, 1) := by decide +kernel
theorem dX12_spell_2 : decode cX12_spell 2 = .ok (.iconst 0, 1) := by decide +kernel
theorem dX12_spell_3 : decode cX12_spell 3 = .ok (.istore_n 3, 1) := by decide +kernel
theorem dX12_spell_4 : decode cX12_spell 4 = .ok (.iload_n 3, 1) := by decide +kernel
theorem dX12_spell_5 : decode cX12_spell 5 = .ok (.aload_n 0, 1) := by decide +kernel
theorem dX12_spell_6 : decode cX12_spell 6 = .ok (.invokevirtual 265, 3) := by decide +kernel
theorem dX12_spell_9 : decode cX12_spell 9 = .ok (.if_icmp .ge 28, 3) := by decide +kernel
theorem dX12_spell_12 : decode cX12_spell 12 = .ok (.ldc2_w 245, 3) := by decide +kernel
theorem dX12_spell_15 : decode cX12_spell 15 = .ok (.lload_n 1, 1) := by decide +kernel
theorem dX12_spell_16 : decode cX12_spell 16 = .ok (.lmul, 1) := by decide +kernel
theorem dX12_spell_17 : decode cX12_spell 17 = .ok (.aload_n 0, 1) := by decide +kernel
theorem dX12_spell_18 : decode cX12_spell 18 = .ok (.iload_n 3, 1) := by decide +kernel
theorem dX12_spell_19 : decode cX12_spell 19 = .ok (.invokevirtual 271, 3) := by decide +kernel
theorem dX12_spell_22 : decode cX12_spell 22 = .ok (.i2l, 1) := by decide +kernel
theorem dX12_spell_23 : decode cX12_spell 23 = .ok (.ladd, 1) := by decide +kernel
theorem dX12_spell_24 : decode cX12_spell 24 = .ok (.ldc2_w 247, 3) := by decide +kernel
theorem dX12_spell_27 : decode cX12_spell 27 = .ok (.lsub, 1) := by decide +kernel
theorem dX12_spell_28 : decode cX12_spell 28 = .ok (.lconst 1, 1) := by decide +kernel
theorem dX12_spell_29 : decode cX12_spell 29 = .ok (.ladd, 1) := by decide +kernel
theorem dX12_spell_30 : decode cX12_spell 30 = .ok (.lstore_n 1, 1) := by decide +kernel
theorem dX12_spell_31 : decode cX12_spell 31 = .ok (.iinc 3 1, 3) := by decide +kernel
theorem dX12_spell_34 : decode cX12_spell 34 = .ok (.goto (-30), 3) := by decide +kernel
theorem dX12_spell_37 : decode cX12_spell 37 = .ok (.lload_n 1, 1) := by decide +kernel
theorem dX12_spell_38 : decode cX12_spell 38 = .ok (.lreturn, 1) := by decide +kernel
theorem dX12_isWord_0 : decode cX12_isWord 0 = .ok (.aload_n 0, 1) := by decide +kernel
theorem dX12_isWord_1 : decode cX12_isWord 1 = .ok (.getfield 239, 3) := by decide +kernel
theorem dX12_isWord_4 : decode cX12_isWord 4 = .ok (.iconst 1, 1) := by decide +kernel
theorem dX12_isWord_5 : decode cX12_isWord 5 = .ok (.if_icmp .ne 25, 3) := by decide +kernel
theorem dX12_isWord_8 : decode cX12_isWord 8 = .ok (.aload_n 0, 1) := by decide +kernel
theorem dX12_isWord_9 : decode cX12_isWord 9 = .ok (.getfield 230, 3) := by decide +kernel
theorem dX12_isWord_12 : decode cX12_isWord 12 = .ok (.bipush 12, 2) := by decide +kernel
theorem dX12_isWord_14 : decode cX12_isWord 14 = .ok (.if_icmp .gt 16, 3) := by decide +kernel
theorem dX12_isWord_17 : decode cX12_isWord 17 = .ok (.aload_n 0, 1) := by decide +kernel
theorem dX12_isWord_18 : decode cX12_isWord 18 = .ok (.getfield 233, 3) := by decide +kernel
theorem dX12_isWord_21 : decode cX12_isWord 21 = .ok (.lload_n 1, 1) := by decide +kernel
theorem dX12_isWord_22 : decode cX12_isWord 22 = .ok (.lcmp, 1) := by decide +kernel
theorem dX12_isWord_23 : decode cX12_isWord 23 = .ok (.ifCond .ne 7, 3) := by decide +kernel
theorem dX12_isWord_26 : decode cX12_isWord 26 = .ok (.iconst 1, 1) := by decide +kernel
theorem dX12_isWord_27 : decode cX12_isWord 27 = .ok (.goto 4, 3) := by decide +kernel
theorem dX12_isWord_30 : decode cX12_isWord 30 = .ok (.iconst 0, 1) := by decide +kernel
theorem dX12_isWord_31 : decode cX12_isWord 31 = .ok (.ireturn, 1) := by decide +kernel
theorem dX12_lookNumber_0 : decode cX12_lookNumber 0 = .ok (.aload_n 0, 1) := by decide +kernel
theorem dX12_lookNumber_1 : decode cX12_lookNumber 1 = .ok (.invokevirtual 275, 3) := by decide +kernel
theorem dX12_lookNumber_4 : decode cX12_lookNumber 4 = .ok (.ifCond .ne 5, 3) := by decide +kernel
theorem dX12_lookNumber_7 : decode cX12_lookNumber 7 = .ok (.iload_n 1, 1) := by decide +kernel
theorem dX12_lookNumber_8 : decode cX12_lookNumber 8 = .ok (.ireturn, 1) := by decide +kernel
theorem dX12_lookNumber_9 : decode cX12_lookNumber 9 = .ok (.aload_n 0, 1) := by decide +kernel
theorem dX12_lookNumber_10 : decode cX12_lookNumber 10 = .ok (.getfield 239, 3) := by decide +kernel
theorem dX12_lookNumber_13 : decode cX12_lookNumber 13 = .ok (.iconst 2, 1) := by decide +kernel
theorem dX12_lookNumber_14 : decode cX12_lookNumber 14 = .ok (.if_icmp .eq 11, 3) := by decide +kernel
theorem dX12_lookNumber_17 : decode cX12_lookNumber 17 = .ok (.aload_n 0, 1) := by decide +kernel
theorem dX12_lookNumber_18 : decode cX12_lookNumber 18 = .ok (.iconst 1, 1) := by decide +kernel
theorem dX12_lookNumber_19 : decode cX12_lookNumber 19 = .ok (.invokevirtual 279, 3) := by decide +kernel
theorem dX12_lookNumber_22 : decode cX12_lookNumber 22 = .ok (.goto 23, 3) := by decide +kernel
theorem dX12_lookNumber_25 : decode cX12_lookNumber 25 = .ok (.aload_n 0, 1) := by decide +kernel
theorem dX12_lookNumber_26 : decode cX12_lookNumber 26 = .ok (.getfield 236, 3) := by decide +kernel
theorem dX12_lookNumber_29 : decode cX12_lookNumber 29 = .ok (.i2l, 1) := by decide +kernel
theorem dX12_lookNumber_30 : decode cX12_lookNumber 30 = .ok (.iload_n 1, 1) := by decide +kernel
theorem dX12_lookNumber_31 : decode cX12_lookNumber 31 = .ok (.i2l, 1) := by decide +kernel
theorem dX12_lookNumber_32 : decode cX12_lookNumber 32 = .ok (.iload_n 2, 1) := by decide +kernel
theorem dX12_lookNumber_33 : decode cX12_lookNumber 33 = .ok (.i2l, 1) := by decide +kernel
theorem dX12_lookNumber_34 : decode cX12_lookNumber 34 = .ok (.invokestatic 282, 3) := by decide +kernel
theorem dX12_lookNumber_37 : decode cX12_lookNumber 37 = .ok (.ifCond .ne 8, 3) := by decide +kernel
theorem dX12_lookNumber_40 : decode cX12_lookNumber 40 = .ok (.aload_n 0, 1) := by decide +kernel
theorem dX12_lookNumber_41 : decode cX12_lookNumber 41 = .ok (.iconst 2, 1) := by decide +kernel
theorem dX12_lookNumber_42 : decode cX12_lookNumber 42 = .ok (.invokevirtual 279, 3) := by decide +kernel
theorem dX12_lookNumber_45 : decode cX12_lookNumber 45 = .ok (.aload_n 0, 1) := by decide +kernel
theorem dX12_lookNumber_46 : decode cX12_lookNumber 46 = .ok (.invokevirtual 275, 3) := by decide +kernel
theorem dX12_lookNumber_49 : decode cX12_lookNumber 49 = .ok (.ifCond .eq 10, 3) := by decide +kernel
theorem dX12_lookNumber_52 : decode cX12_lookNumber 52 = .ok (.aload_n 0, 1) := by decide +kernel
theorem dX12_lookNumber_53 : decode cX12_lookNumber 53 = .ok (.getfield 236, 3) := by decide +kernel
theorem dX12_lookNumber_56 : decode cX12_lookNumber 56 = .ok (.goto 4, 3) := by decide +kernel
theorem dX12_lookNumber_59 : decode cX12_lookNumber 59 = .ok (.iload_n 1, 1) := by decide +kernel
theorem dX12_lookNumber_60 : decode cX12_lookNumber 60 = .ok (.ireturn, 1) := by decide +kernel
theorem dX12_takeNumber_0 : decode cX12_takeNumber 0 = .ok (.aload_n 0, 1) := by decide +kernel
theorem dX12_takeNumber_1 : decode cX12_takeNumber 1 = .ok (.iload_n 1, 1) := by decide +kernel
theorem dX12_takeNumber_2 : decode cX12_takeNumber 2 = .ok (.iload_n 2, 1) := by decide +kernel
theorem dX12_takeNumber_3 : decode cX12_takeNumber 3 = .ok (.invokevirtual 286, 3) := by decide +kernel
theorem dX12_takeNumber_6 : decode cX12_takeNumber 6 = .ok (.istore_n 3, 1) := by decide +kernel
theorem dX12_takeNumber_7 : decode cX12_takeNumber 7 = .ok (.aload_n 0, 1) := by decide +kernel
theorem dX12_takeNumber_8 : decode cX12_takeNumber 8 = .ok (.invokevirtual 275, 3) := by decide +kernel
theorem dX12_takeNumber_11 : decode cX12_takeNumber 11 = .ok (.ifCond .eq 7, 3) := by decide +kernel
theorem dX12_takeNumber_14 : decode cX12_takeNumber 14 = .ok (.aload_n 0, 1) := by decide +kernel
theorem dX12_takeNumber_15 : decode cX12_takeNumber 15 = .ok (.invokevirtual 259, 3) := by decide +kernel
theorem dX12_takeNumber_18 : decode cX12_takeNumber 18 = .ok (.iload_n 3, 1) := by decide +kernel
theorem dX12_takeNumber_19 : decode cX12_takeNumber 19 = .ok (.ireturn, 1) := by decide +kernel
theorem dX12_requireNot_0 : decode cX12_requireNot 0 = .ok (.aload_n 0, 1) := by decide +kernel
theorem dX12_requireNot_1 : decode cX12_requireNot 1 = .ok (.invokevirtual 275, 3) := by decide +kernel
theorem dX12_requireNot_4 : decode cX12_requireNot 4 = .ok (.ifCond .eq 12, 3) := by decide +kernel
theorem dX12_requireNot_7 : decode cX12_requireNot 7 = .ok (.iload_n 1, 1) := by decide +kernel
theorem dX12_requireNot_8 : decode cX12_requireNot 8 = .ok (.ifCond .eq 8, 3) := by decide +kernel
theorem dX12_requireNot_11 : decode cX12_requireNot 11 = .ok (.aload_n 0, 1) := by decide +kernel
theorem dX12_requireNot_12 : decode cX12_requireNot 12 = .ok (.iload_n 2, 1) := by decide +kernel
theorem dX12_requireNot_13 : decode cX12_requireNot 13 = .ok (.invokevirtual 279, 3) := by decide +kernel
theorem dX12_requireNot_16 : decode cX12_requireNot 16 = .ok (.return_, 1) := by decide +kernel
theorem dX12_takeEnd_0 : decode cX12_takeEnd 0 = .ok (.aload_n 0, 1) := by decide +kernel
theorem dX12_takeEnd_1 : decode cX12_takeEnd 1 = .ok (.invokevirtual 275, 3) := by decide +kernel
theorem dX12_takeEnd_4 : decode cX12_takeEnd 4 = .ok (.ifCond .ne 4, 3) := by decide +kernel
theorem dX12_takeEnd_7 : decode cX12_takeEnd 7 = .ok (.return_, 1) := by decide +kernel
theorem dX12_takeEnd_8 : decode cX12_takeEnd 8 = .ok (.aload_n 0, 1) := by decide +kernel
theorem dX12_takeEnd_9 : decode cX12_takeEnd 9 = .ok (.getfield 239, 3) := by decide +kernel
theorem dX12_takeEnd_12 : decode cX12_takeEnd 12 = .ok (.iconst 3, 1) := by decide +kernel
theorem dX12_takeEnd_13 : decode cX12_takeEnd 13 = .ok (.if_icmp .ne 12, 3) := by decide +kernel
theorem dX12_takeEnd_16 : decode cX12_takeEnd 16 = .ok (.aload_n 0, 1) := by decide +kernel
theorem dX12_takeEnd_17 : decode cX12_takeEnd 17 = .ok (.getfield 236, 3) := by decide +kernel
theorem dX12_takeEnd_20 : decode cX12_takeEnd 20 = .ok (.bipush 59, 2) := by decide +kernel
theorem dX12_takeEnd_22 : decode cX12_takeEnd 22 = .ok (.if_icmp .eq 8, 3) := by decide +kernel
theorem dX12_takeEnd_25 : decode cX12_takeEnd 25 = .ok (.aload_n 0, 1) := by decide +kernel
theorem dX12_takeEnd_26 : decode cX12_takeEnd 26 = .ok (.iconst 1, 1) := by decide +kernel
theorem dX12_takeEnd_27 : decode cX12_takeEnd 27 = .ok (.invokevirtual 279, 3) := by decide +kernel
theorem dX12_takeEnd_30 : decode cX12_takeEnd 30 = .ok (.aload_n 0, 1) := by decide +kernel
theorem dX12_takeEnd_31 : decode cX12_takeEnd 31 = .ok (.iload_n 1, 1) := by decide +kernel
theorem dX12_takeEnd_32 : decode cX12_takeEnd 32 = .ok (.bipush 6, 2) := by decide +kernel
theorem dX12_takeEnd_34 : decode cX12_takeEnd 34 = .ok (.invokevirtual 289, 3) := by decide +kernel
theorem dX12_takeEnd_37 : decode cX12_takeEnd 37 = .ok (.aload_n 0, 1) := by decide +kernel
theorem dX12_takeEnd_38 : decode cX12_takeEnd 38 = .ok (.invokevirtual 275, 3) := by decide +kernel
theorem dX12_takeEnd_41 : decode cX12_takeEnd 41 = .ok (.ifCond .eq 7, 3) := by decide +kernel
theorem dX12_takeEnd_44 : decode cX12_takeEnd 44 = .ok (.aload_n 0, 1) := by decide +kernel
theorem dX12_takeEnd_45 : decode cX12_takeEnd 45 = .ok (.invokevirtual 259, 3) := by decide +kernel
theorem dX12_takeEnd_48 : decode cX12_takeEnd 48 = .ok (.return_, 1) := by decide +kernel
theorem dX12_varietyHere_0 : decode cX12_varietyHere 0 = .ok (.iconst 0, 1) := by decide +kernel
theorem dX12_varietyHere_1 : decode cX12_varietyHere 1 = .ok (.istore_n 1, 1) := by decide +kernel
theorem dX12_varietyHere_2 : decode cX12_varietyHere 2 = .ok (.iload_n 1, 1) := by decide +kernel
theorem dX12_varietyHere_3 : decode cX12_varietyHere 3 = .ok (.aload_n 0, 1) := by decide +kernel
theorem dX12_varietyHere_4 : decode cX12_varietyHere 4 = .ok (.getfield 24, 3) := by decide +kernel
theorem dX12_varietyHere_7 : decode cX12_varietyHere 7 = .ok (.iconst 4, 1) := by decide +kernel
theorem dX12_varietyHere_8 : decode cX12_varietyHere 8 = .ok (.iaload, 1) := by decide +kernel
theorem dX12_varietyHere_9 : decode cX12_varietyHere 9 = .ok (.if_icmp .ge 59, 3) := by decide +kernel
theorem dX12_varietyHere_12 : decode cX12_varietyHere 12 = .ok (.bipush 16, 2) := by decide +kernel
theorem dX12_varietyHere_14 : decode cX12_varietyHere 14 = .ok (.bipush 6, 2) := by decide +kernel
theorem dX12_varietyHere_16 : decode cX12_varietyHere 16 = .ok (.iload_n 1, 1) := by decide +kernel
theorem dX12_varietyHere_17 : decode cX12_varietyHere 17 = .ok (.imul, 1) := by decide +kernel
theorem dX12_varietyHere_18 : decode cX12_varietyHere 18 = .ok (.iadd, 1) := by decide +kernel
theorem dX12_varietyHere_19 : decode cX12_varietyHere 19 = .ok (.istore_n 2, 1) := by decide +kernel
theorem dX12_varietyHere_20 : decode cX12_varietyHere 20 = .ok (.aload_n 0, 1) := by decide +kernel
theorem dX12_varietyHere_21 : decode cX12_varietyHere 21 = .ok (.getfield 239, 3) := by decide +kernel
theorem dX12_varietyHere_24 : decode cX12_varietyHere 24 = .ok (.iconst 1, 1) := by decide +kernel
theorem dX12_varietyHere_25 : decode cX12_varietyHere 25 = .ok (.if_icmp .ne 37, 3) := by decide +kernel
theorem dX12_varietyHere_28 : decode cX12_varietyHere 28 = .ok (.aload_n 0, 1) := by decide +kernel
theorem dX12_varietyHere_29 : decode cX12_varietyHere 29 = .ok (.getfield 24, 3) := by decide +kernel
theorem dX12_varietyHere_32 : decode cX12_varietyHere 32 = .ok (.iload_n 2, 1) := by decide +kernel
theorem dX12_varietyHere_33 : decode cX12_varietyHere 33 = .ok (.iconst 1, 1) := by decide +kernel
theorem dX12_varietyHere_34 : decode cX12_varietyHere 34 = .ok (.iadd, 1) := by decide +kernel
theorem dX12_varietyHere_35 : decode cX12_varietyHere 35 = .ok (.iaload, 1) := by decide +kernel
theorem dX12_varietyHere_36 : decode cX12_varietyHere 36 = .ok (.aload_n 0, 1) := by decide +kernel
theorem dX12_varietyHere_37 : decode cX12_varietyHere 37 = .ok (.getfield 230, 3) := by decide +kernel
theorem dX12_varietyHere_40 : decode cX12_varietyHere 40 = .ok (.if_icmp .ne 22, 3) := by decide +kernel
theorem dX12_varietyHere_43 : decode cX12_varietyHere 43 = .ok (.aload_n 0, 1) := by decide +kernel
theorem dX12_varietyHere_44 : decode cX12_varietyHere 44 = .ok (.getfield 24, 3) := by decide +kernel
theorem dX12_varietyHere_47 : decode cX12_varietyHere 47 = .ok (.iload_n 2, 1) := by decide +kernel
theorem dX12_varietyHere_48 : decode cX12_varietyHere 48 = .ok (.iconst 0, 1) := by decide +kernel
theorem dX12_varietyHere_49 : decode cX12_varietyHere 49 = .ok (.iadd, 1) := by decide +kernel
theorem dX12_varietyHere_50 : decode cX12_varietyHere 50 = .ok (.iaload, 1) := by decide +kernel
theorem dX12_varietyHere_51 : decode cX12_varietyHere 51 = .ok (.i2l, 1) := by decide +kernel
theorem dX12_varietyHere_52 : decode cX12_varietyHere 52 = .ok (.aload_n 0, 1) := by decide +kernel
theorem dX12_varietyHere_53 : decode cX12_varietyHere 53 = .ok (.getfield 233, 3) := by decide +kernel
theorem dX12_varietyHere_56 : decode cX12_varietyHere 56 = .ok (.lcmp, 1) := by decide +kernel
theorem dX12_varietyHere_57 : decode cX12_varietyHere 57 = .ok (.ifCond .ne 5, 3) := by decide +kernel
theorem dX12_varietyHere_60 : decode cX12_varietyHere 60 = .ok (.iload_n 1, 1) := by decide +kernel
theorem dX12_varietyHere_61 : decode cX12_varietyHere 61 = .ok (.ireturn, 1) := by decide +kernel
theorem dX12_varietyHere_62 : decode cX12_varietyHere 62 = .ok (.iinc 1 1, 3) := by decide +kernel
theorem dX12_varietyHere_65 : decode cX12_varietyHere 65 = .ok (.goto (-63), 3) := by decide +kernel
theorem dX12_varietyHere_68 : decode cX12_varietyHere 68 = .ok (.iconst (-1), 1) := by decide +kernel
theorem dX12_varietyHere_69 : decode cX12_varietyHere 69 = .ok (.ireturn, 1) := by decide +kernel
theorem dX12_growerHere_0 : decode cX12_growerHere 0 = .ok (.iconst 0, 1) := by decide +kernel
theorem dX12_growerHere_1 : decode cX12_growerHere 1 = .ok (.istore_n 1, 1) := by decide +kernel
theorem dX12_growerHere_2 : decode cX12_growerHere 2 = .ok (.iload_n 1, 1) := by decide +kernel
theorem dX12_growerHere_3 : decode cX12_growerHere 3 = .ok (.aload_n 0, 1) := by decide +kernel
theorem dX12_growerHere_4 : decode cX12_growerHere 4 = .ok (.getfield 24, 3) := by decide +kernel
theorem dX12_growerHere_7 : decode cX12_growerHere 7 = .ok (.iconst 5, 1) := by decide +kernel
theorem dX12_growerHere_8 : decode cX12_growerHere 8 = .ok (.iaload, 1) := by decide +kernel
theorem dX12_growerHere_9 : decode cX12_growerHere 9 = .ok (.if_icmp .ge 58, 3) := by decide +kernel
theorem dX12_growerHere_12 : decode cX12_growerHere 12 = .ok (.bipush 40, 2) := by decide +kernel
theorem dX12_growerHere_14 : decode cX12_growerHere 14 = .ok (.iconst 2, 1) := by decide +kernel
theorem dX12_growerHere_15 : decode cX12_growerHere 15 = .ok (.iload_n 1, 1) := by decide +kernel
theorem dX12_growerHere_16 : decode cX12_growerHere 16 = .ok (.imul, 1) := by decide +kernel
theorem dX12_growerHere_17 : decode cX12_growerHere 17 = .ok (.iadd, 1) := by decide +kernel
theorem dX12_growerHere_18 : decode cX12_growerHere 18 = .ok (.istore_n 2, 1) := by decide +kernel
theorem dX12_growerHere_19 : decode cX12_growerHere 19 = .ok (.aload_n 0, 1) := by decide +kernel
theorem dX12_growerHere_20 : decode cX12_growerHere 20 = .ok (.getfield 239, 3) := by decide +kernel
theorem dX12_growerHere_23 : decode cX12_growerHere 23 = .ok (.iconst 1, 1) := by decide +kernel
theorem dX12_growerHere_24 : decode cX12_growerHere 24 = .ok (.if_icmp .ne 37, 3) := by decide +kernel
theorem dX12_growerHere_27 : decode cX12_growerHere 27 = .ok (.aload_n 0, 1) := by decide +kernel
theorem dX12_growerHere_28 : decode cX12_growerHere 28 = .ok (.getfield 24, 3) := by decide +kernel
theorem dX12_growerHere_31 : decode cX12_growerHere 31 = .ok (.iload_n 2, 1) := by decide +kernel
theorem dX12_growerHere_32 : decode cX12_growerHere 32 = .ok (.iconst 1, 1) := by decide +kernel
theorem dX12_growerHere_33 : decode cX12_growerHere 33 = .ok (.iadd, 1) := by decide +kernel
theorem dX12_growerHere_34 : decode cX12_growerHere 34 = .ok (.iaload, 1) := by decide +kernel
theorem dX12_growerHere_35 : decode cX12_growerHere 35 = .ok (.aload_n 0, 1) := by decide +kernel
theorem dX12_growerHere_36 : decode cX12_growerHere 36 = .ok (.getfield 230, 3) := by decide +kernel
theorem dX12_growerHere_39 : decode cX12_growerHere 39 = .ok (.if_icmp .ne 22, 3) := by decide +kernel
theorem dX12_growerHere_42 : decode cX12_growerHere 42 = .ok (.aload_n 0, 1) := by decide +kernel
theorem dX12_growerHere_43 : decode cX12_growerHere 43 = .ok (.getfield 24, 3) := by decide +kernel
theorem dX12_growerHere_46 : decode cX12_growerHere 46 = .ok (.iload_n 2, 1) := by decide +kernel
theorem dX12_growerHere_47 : decode cX12_growerHere 47 = .ok (.iconst 0, 1) := by decide +kernel
theorem dX12_growerHere_48 : decode cX12_growerHere 48 = .ok (.iadd, 1) := by decide +kernel
theorem dX12_growerHere_49 : decode cX12_growerHere 49 = .ok (.iaload, 1) := by decide +kernel
theorem dX12_growerHere_50 : decode cX12_growerHere 50 = .ok (.i2l, 1) := by decide +kernel
theorem dX12_growerHere_51 : decode cX12_growerHere 51 = .ok (.aload_n 0, 1) := by decide +kernel
theorem dX12_growerHere_52 : decode cX12_growerHere 52 = .ok (.getfield 233, 3) := by decide +kernel
theorem dX12_growerHere_55 : decode cX12_growerHere 55 = .ok (.lcmp, 1) := by decide +kernel
theorem dX12_growerHere_56 : decode cX12_growerHere 56 = .ok (.ifCond .ne 5, 3) := by decide +kernel
theorem dX12_growerHere_59 : decode cX12_growerHere 59 = .ok (.iload_n 1, 1) := by decide +kernel
theorem dX12_growerHere_60 : decode cX12_growerHere 60 = .ok (.ireturn, 1) := by decide +kernel
theorem dX12_growerHere_61 : decode cX12_growerHere 61 = .ok (.iinc 1 1, 3) := by decide +kernel
theorem dX12_growerHere_64 : decode cX12_growerHere 64 = .ok (.goto (-62), 3) := by decide +kernel
theorem dX12_growerHere_67 : decode cX12_growerHere 67 = .ok (.iconst (-1), 1) := by decide +kernel
theorem dX12_growerHere_68 : decode cX12_growerHere 68 = .ok (.ireturn, 1) := by decide +kernel
theorem dX12_takeNamed_0 : decode cX12_takeNamed 0 = .ok (.aload_n 0, 1) := by decide +kernel
theorem dX12_takeNamed_1 : decode cX12_takeNamed 1 = .ok (.invokevirtual 275, 3) := by decide +kernel
theorem dX12_takeNamed_4 : decode cX12_takeNamed 4 = .ok (.ifCond .ne 5, 3) := by decide +kernel
theorem dX12_takeNamed_7 : decode cX12_takeNamed 7 = .ok (.iconst 0, 1) := by decide +kernel
theorem dX12_takeNamed_8 : decode cX12_takeNamed 8 = .ok (.ireturn, 1) := by decide +kernel
theorem dX12_takeNamed_9 : decode cX12_takeNamed 9 = .ok (.iload_n 1, 1) := by decide +kernel
theorem dX12_takeNamed_10 : decode cX12_takeNamed 10 = .ok (.ifCond .eq 10, 3) := by decide +kernel
theorem dX12_takeNamed_13 : decode cX12_takeNamed 13 = .ok (.aload_n 0, 1) := by decide +kernel
theorem dX12_takeNamed_14 : decode cX12_takeNamed 14 = .ok (.invokevirtual 293, 3) := by decide +kernel
theorem dX12_takeNamed_17 : decode cX12_takeNamed 17 = .ok (.goto 7, 3) := by decide +kernel
theorem dX12_takeNamed_20 : decode cX12_takeNamed 20 = .ok (.aload_n 0, 1) := by decide +kernel
theorem dX12_takeNamed_21 : decode cX12_takeNamed 21 = .ok (.invokevirtual 296, 3) := by decide +kernel
theorem dX12_takeNamed_24 : decode cX12_takeNamed 24 = .ok (.istore_n 2, 1) := by decide +kernel
theorem dX12_takeNamed_25 : decode cX12_takeNamed 25 = .ok (.aload_n 0, 1) := by decide +kernel
theorem dX12_takeNamed_26 : decode cX12_takeNamed 26 = .ok (.aload_n 0, 1) := by decide +kernel
theorem dX12_takeNamed_27 : decode cX12_takeNamed 27 = .ok (.getfield 239, 3) := by decide +kernel
theorem dX12_takeNamed_30 : decode cX12_takeNamed 30 = .ok (.iconst 1, 1) := by decide +kernel
theorem dX12_takeNamed_31 : decode cX12_takeNamed 31 = .ok (.if_icmp .eq 7, 3) := by decide +kernel
theorem dX12_takeNamed_34 : decode cX12_takeNamed 34 = .ok (.iconst 1, 1) := by decide +kernel
theorem dX12_takeNamed_35 : decode cX12_takeNamed 35 = .ok (.goto 4, 3) := by decide +kernel
theorem dX12_takeNamed_38 : decode cX12_takeNamed 38 = .ok (.iconst 0, 1) := by decide +kernel
theorem dX12_takeNamed_39 : decode cX12_takeNamed 39 = .ok (.iconst 1, 1) := by decide +kernel
theorem dX12_takeNamed_40 : decode cX12_takeNamed 40 = .ok (.invokevirtual 289, 3) := by decide +kernel
theorem dX12_takeNamed_43 : decode cX12_takeNamed 43 = .ok (.aload_n 0, 1) := by decide +kernel
theorem dX12_takeNamed_44 : decode cX12_takeNamed 44 = .ok (.iload_n 2, 1) := by decide +kernel
theorem dX12_takeNamed_45 : decode cX12_takeNamed 45 = .ok (.iconst (-1), 1) := by decide +kernel
theorem dX12_takeNamed_46 : decode cX12_takeNamed 46 = .ok (.if_icmp .ne 7, 3) := by decide +kernel
theorem dX12_takeNamed_49 : decode cX12_takeNamed 49 = .ok (.iconst 1, 1) := by decide +kernel
theorem dX12_takeNamed_50 : decode cX12_takeNamed 50 = .ok (.goto 4, 3) := by decide +kernel
theorem dX12_takeNamed_53 : decode cX12_takeNamed 53 = .ok (.iconst 0, 1) := by decide +kernel
theorem dX12_takeNamed_54 : decode cX12_takeNamed 54 = .ok (.iconst 4, 1) := by decide +kernel
theorem dX12_takeNamed_55 : decode cX12_takeNamed 55 = .ok (.invokevirtual 289, 3) := by decide +kernel
theorem dX12_takeNamed_58 : decode cX12_takeNamed 58 = .ok (.aload_n 0, 1) := by decide +kernel
theorem dX12_takeNamed_59 : decode cX12_takeNamed 59 = .ok (.invokevirtual 275, 3) := by decide +kernel
theorem dX12_takeNamed_62 : decode cX12_takeNamed 62 = .ok (.ifCond .eq 7, 3) := by decide +kernel
theorem dX12_takeNamed_65 : decode cX12_takeNamed 65 = .ok (.aload_n 0, 1) := by decide +kernel
theorem dX12_takeNamed_66 : decode cX12_takeNamed 66 = .ok (.invokevirtual 259, 3) := by decide +kernel
theorem dX12_takeNamed_69 : decode cX12_takeNamed 69 = .ok (.iconst 0, 1) := by decide +kernel
theorem dX12_takeNamed_70 : decode cX12_takeNamed 70 = .ok (.iload_n 2, 1) := by decide +kernel
theorem dX12_takeNamed_71 : decode cX12_takeNamed 71 = .ok (.invokestatic 299, 3) := by decide +kernel
theorem dX12_takeNamed_74 : decode cX12_takeNamed 74 = .ok (.ireturn, 1) := by decide +kernel
theorem dX12_startMore_0 : decode cX12_startMore 0 = .ok (.aload_n 0, 1) := by decide +kernel
theorem dX12_startMore_1 : decode cX12_startMore 1 = .ok (.aload_n 0, 1) := by decide +kernel
theorem dX12_startMore_2 : decode cX12_startMore 2 = .ok (.getfield 24, 3) := by decide +kernel
theorem dX12_startMore_5 : decode cX12_startMore 5 = .ok (.iload_n 1, 1) := by decide +kernel
theorem dX12_startMore_6 : decode cX12_startMore 6 = .ok (.iaload, 1) := by decide +kernel
theorem dX12_startMore_7 : decode cX12_startMore 7 = .ok (.iload_n 2, 1) := by decide +kernel
theorem dX12_startMore_8 : decode cX12_startMore 8 = .ok (.if_icmp .ne 7, 3) := by decide +kernel
theorem dX12_startMore_11 : decode cX12_startMore 11 = .ok (.iconst 1, 1) := by decide +kernel
theorem dX12_startMore_12 : decode cX12_startMore 12 = .ok (.goto 4, 3) := by decide +kernel
theorem dX12_startMore_15 : decode cX12_startMore 15 = .ok (.iconst 0, 1) := by decide +kernel
theorem dX12_startMore_16 : decode cX12_startMore 16 = .ok (.iconst 5, 1) := by decide +kernel
theorem dX12_startMore_17 : decode cX12_startMore 17 = .ok (.invokevirtual 289, 3) := by decide +kernel
theorem dX12_startMore_20 : decode cX12_startMore 20 = .ok (.aload_n 0, 1) := by decide +kernel
theorem dX12_startMore_21 : decode cX12_startMore 21 = .ok (.invokevirtual 275, 3) := by decide +kernel
theorem dX12_startMore_24 : decode cX12_startMore 24 = .ok (.ifCond .eq 7, 3) := by decide +kernel
theorem dX12_startMore_27 : decode cX12_startMore 27 = .ok (.aload_n 0, 1) := by decide +kernel
theorem dX12_startMore_28 : decode cX12_startMore 28 = .ok (.invokevirtual 259, 3) := by decide +kernel
theorem dX12_startMore_31 : decode cX12_startMore 31 = .ok (.aload_n 0, 1) := by decide +kernel
theorem dX12_startMore_32 : decode cX12_startMore 32 = .ok (.invokevirtual 275, 3) := by decide +kernel
theorem dX12_startMore_35 : decode cX12_startMore 35 = .ok (.ireturn, 1) := by decide +kernel
theorem dX12_readCooperative_0 : decode cX12_readCooperative 0 = .ok (.aload_n 0, 1) := by decide +kernel
theorem dX12_readCooperative_1 : decode cX12_readCooperative 1 = .ok (.aload_n 0, 1) := by decide +kernel
theorem dX12_readCooperative_2 : decode cX12_readCooperative 2 = .ok (.getfield 37, 3) := by decide +kernel
theorem dX12_readCooperative_5 : decode cX12_readCooperative 5 = .ok (.invokevirtual 304, 3) := by decide +kernel
theorem dX12_readCooperative_8 : decode cX12_readCooperative 8 = .ok (.ifCond .ne 9, 3) := by decide +kernel
theorem dX12_readCooperative_11 : decode cX12_readCooperative 11 = .ok (.aload_n 0, 1) := by decide +kernel
theorem dX12_readCooperative_12 : decode cX12_readCooperative 12 = .ok (.iconst 1, 1) := by decide +kernel
theorem dX12_readCooperative_13 : decode cX12_readCooperative 13 = .ok (.invokevirtual 279, 3) := by decide +kernel
theorem dX12_readCooperative_16 : decode cX12_readCooperative 16 = .ok (.return_, 1) := by decide +kernel
theorem dX12_readCooperative_17 : decode cX12_readCooperative 17 = .ok (.aload_n 0, 1) := by decide +kernel
theorem dX12_readCooperative_18 : decode cX12_readCooperative 18 = .ok (.invokevirtual 259, 3) := by decide +kernel
theorem dX12_readCooperative_21 : decode cX12_readCooperative 21 = .ok (.iconst 0, 1) := by decide +kernel
theorem dX12_readCooperative_22 : decode cX12_readCooperative 22 = .ok (.istore_n 1, 1) := by decide +kernel
theorem dX12_readCooperative_23 : decode cX12_readCooperative 23 = .ok (.iload_n 1, 1) := by decide +kernel
theorem dX12_readCooperative_24 : decode cX12_readCooperative 24 = .ok (.sipush 264, 3) := by decide +kernel
theorem dX12_readCooperative_27 : decode cX12_readCooperative 27 = .ok (.if_icmp .ge 16, 3) := by decide +kernel
theorem dX12_readCooperative_30 : decode cX12_readCooperative 30 = .ok (.aload_n 0, 1) := by decide +kernel
theorem dX12_readCooperative_31 : decode cX12_readCooperative 31 = .ok (.getfield 24, 3) := by decide +kernel
theorem dX12_readCooperative_34 : decode cX12_readCooperative 34 = .ok (.iload_n 1, 1) := by decide +kernel
theorem dX12_readCooperative_35 : decode cX12_readCooperative 35 = .ok (.iconst 0, 1) := by decide +kernel
theorem dX12_readCooperative_36 : decode cX12_readCooperative 36 = .ok (.iastore, 1) := by decide +kernel
theorem dX12_readCooperative_37 : decode cX12_readCooperative 37 = .ok (.iinc 1 1, 3) := by decide +kernel
theorem dX12_readCooperative_40 : decode cX12_readCooperative 40 = .ok (.goto (-17), 3) := by decide +kernel
theorem dX12_readCooperative_43 : decode cX12_readCooperative 43 = .ok (.aload_n 0, 1) := by decide +kernel
theorem dX12_readCooperative_44 : decode cX12_readCooperative 44 = .ok (.getfield 24, 3) := by decide +kernel
theorem dX12_readCooperative_47 : decode cX12_readCooperative 47 = .ok (.iconst 0, 1) := by decide +kernel
theorem dX12_readCooperative_48 : decode cX12_readCooperative 48 = .ok (.aload_n 0, 1) := by decide +kernel
theorem dX12_readCooperative_49 : decode cX12_readCooperative 49 = .ok (.iconst 1, 1) := by decide +kernel
theorem dX12_readCooperative_50 : decode cX12_readCooperative 50 = .ok (.sipush 200, 3) := by decide +kernel
theorem dX12_readCooperative_53 : decode cX12_readCooperative 53 = .ok (.invokevirtual 308, 3) := by decide +kernel
theorem dX12_readCooperative_56 : decode cX12_readCooperative 56 = .ok (.iastore, 1) := by decide +kernel
theorem dX12_readCooperative_57 : decode cX12_readCooperative 57 = .ok (.aload_n 0, 1) := by decide +kernel
theorem dX12_readCooperative_58 : decode cX12_readCooperative 58 = .ok (.getfield 24, 3) := by decide +kernel
theorem dX12_readCooperative_61 : decode cX12_readCooperative 61 = .ok (.iconst 1, 1) := by decide +kernel
theorem dX12_readCooperative_62 : decode cX12_readCooperative 62 = .ok (.aload_n 0, 1) := by decide +kernel
theorem dX12_readCooperative_63 : decode cX12_readCooperative 63 = .ok (.iconst 0, 1) := by decide +kernel
theorem dX12_readCooperative_64 : decode cX12_readCooperative 64 = .ok (.ldc 254, 2) := by decide +kernel
theorem dX12_readCooperative_66 : decode cX12_readCooperative 66 = .ok (.invokevirtual 308, 3) := by decide +kernel
theorem dX12_readCooperative_69 : decode cX12_readCooperative 69 = .ok (.iastore, 1) := by decide +kernel
theorem dX12_readCooperative_70 : decode cX12_readCooperative 70 = .ok (.aload_n 0, 1) := by decide +kernel
theorem dX12_readCooperative_71 : decode cX12_readCooperative 71 = .ok (.getfield 24, 3) := by decide +kernel
theorem dX12_readCooperative_74 : decode cX12_readCooperative 74 = .ok (.iconst 2, 1) := by decide +kernel
theorem dX12_readCooperative_75 : decode cX12_readCooperative 75 = .ok (.aload_n 0, 1) := by decide +kernel
theorem dX12_readCooperative_76 : decode cX12_readCooperative 76 = .ok (.getfield 24, 3) := by decide +kernel
theorem dX12_readCooperative_79 : decode cX12_readCooperative 79 = .ok (.iconst 1, 1) := by decide +kernel
theorem dX12_readCooperative_80 : decode cX12_readCooperative 80 = .ok (.iaload, 1) := by decide +kernel
theorem dX12_readCooperative_81 : decode cX12_readCooperative 81 = .ok (.iastore, 1) := by decide +kernel
theorem dX12_readCooperative_82 : decode cX12_readCooperative 82 = .ok (.aload_n 0, 1) := by decide +kernel
theorem dX12_readCooperative_83 : decode cX12_readCooperative 83 = .ok (.iconst 0, 1) := by decide +kernel
theorem dX12_readCooperative_84 : decode cX12_readCooperative 84 = .ok (.invokevirtual 311, 3) := by decide +kernel
theorem dX12_readCooperative_87 : decode cX12_readCooperative 87 = .ok (.return_, 1) := by decide +kernel
theorem dX12_readClasses_0 : decode cX12_readClasses 0 = .ok (.aload_n 0, 1) := by decide +kernel
theorem dX12_readClasses_1 : decode cX12_readClasses 1 = .ok (.invokevirtual 275, 3) := by decide +kernel
theorem dX12_readClasses_4 : decode cX12_readClasses 4 = .ok (.ifCond .eq 19, 3) := by decide +kernel
theorem dX12_readClasses_7 : decode cX12_readClasses 7 = .ok (.aload_n 0, 1) := by decide +kernel
theorem dX12_readClasses_8 : decode cX12_readClasses 8 = .ok (.aload_n 0, 1) := by decide +kernel
theorem dX12_readClasses_9 : decode cX12_readClasses 9 = .ok (.getfield 43, 3) := by decide +kernel
theorem dX12_readClasses_12 : decode cX12_readClasses 12 = .ok (.invokevirtual 304, 3) := by decide +kernel
theorem dX12_readClasses_15 : decode cX12_readClasses 15 = .ok (.ifCond .ne 8, 3) := by decide +kernel
theorem dX12_readClasses_18 : decode cX12_readClasses 18 = .ok (.aload_n 0, 1) := by decide +kernel
theorem dX12_readClasses_19 : decode cX12_readClasses 19 = .ok (.iconst 1, 1) := by decide +kernel
theorem dX12_readClasses_20 : decode cX12_readClasses 20 = .ok (.invokevirtual 279, 3) := by decide +kernel
theorem dX12_readClasses_23 : decode cX12_readClasses 23 = .ok (.aload_n 0, 1) := by decide +kernel
theorem dX12_readClasses_24 : decode cX12_readClasses 24 = .ok (.invokevirtual 275, 3) := by decide +kernel
theorem dX12_readClasses_27 : decode cX12_readClasses 27 = .ok (.ifCond .ne 4, 3) := by decide +kernel
theorem dX12_readClasses_30 : decode cX12_readClasses 30 = .ok (.return_, 1) := by decide +kernel
theorem dX12_readClasses_31 : decode cX12_readClasses 31 = .ok (.aload_n 0, 1) := by decide +kernel
theorem dX12_readClasses_32 : decode cX12_readClasses 32 = .ok (.invokevirtual 259, 3) := by decide +kernel
theorem dX12_readClasses_35 : decode cX12_readClasses 35 = .ok (.aload_n 0, 1) := by decide +kernel
theorem dX12_readClasses_36 : decode cX12_readClasses 36 = .ok (.invokevirtual 275, 3) := by decide +kernel
theorem dX12_readClasses_39 : decode cX12_readClasses 39 = .ok (.ifCond .eq 114, 3) := by decide +kernel
theorem dX12_readClasses_42 : decode cX12_readClasses 42 = .ok (.aload_n 0, 1) := by decide +kernel
theorem dX12_readClasses_43 : decode cX12_readClasses 43 = .ok (.getfield 239, 3) := by decide +kernel
theorem dX12_readClasses_46 : decode cX12_readClasses 46 = .ok (.iconst 2, 1) := by decide +kernel
theorem dX12_readClasses_47 : decode cX12_readClasses 47 = .ok (.if_icmp .eq 12, 3) := by decide +kernel
theorem dX12_readClasses_50 : decode cX12_readClasses 50 = .ok (.aload_n 0, 1) := by decide +kernel
theorem dX12_readClasses_51 : decode cX12_readClasses 51 = .ok (.getfield 24, 3) := by decide +kernel
theorem dX12_readClasses_54 : decode cX12_readClasses 54 = .ok (.iconst 3, 1) := by decide +kernel
theorem dX12_readClasses_55 : decode cX12_readClasses 55 = .ok (.iaload, 1) := by decide +kernel
theorem dX12_readClasses_56 : decode cX12_readClasses 56 = .ok (.ifCond .ne 97, 3) := by decide +kernel
theorem dX12_readClasses_59 : decode cX12_readClasses 59 = .ok (.aload_n 0, 1) := by decide +kernel
theorem dX12_readClasses_60 : decode cX12_readClasses 60 = .ok (.iconst 0, 1) := by decide +kernel
theorem dX12_readClasses_61 : decode cX12_readClasses 61 = .ok (.sipush 200, 3) := by decide +kernel
theorem dX12_readClasses_64 : decode cX12_readClasses 64 = .ok (.invokevirtual 286, 3) := by decide +kernel
theorem dX12_readClasses_67 : decode cX12_readClasses 67 = .ok (.istore_n 1, 1) := by decide +kernel
theorem dX12_readClasses_68 : decode cX12_readClasses 68 = .ok (.aload_n 0, 1) := by decide +kernel
theorem dX12_readClasses_69 : decode cX12_readClasses 69 = .ok (.getfield 24, 3) := by decide +kernel
theorem dX12_readClasses_72 : decode cX12_readClasses 72 = .ok (.iconst 3, 1) := by decide +kernel
theorem dX12_readClasses_73 : decode cX12_readClasses 73 = .ok (.iaload, 1) := by decide +kernel
theorem dX12_readClasses_74 : decode cX12_readClasses 74 = .ok (.istore_n 2, 1) := by decide +kernel
theorem dX12_readClasses_75 : decode cX12_readClasses 75 = .ok (.aload_n 0, 1) := by decide +kernel
theorem dX12_readClasses_76 : decode cX12_readClasses 76 = .ok (.iload_n 2, 1) := by decide +kernel
theorem dX12_readClasses_77 : decode cX12_readClasses 77 = .ok (.ifCond .le 22, 3) := by decide +kernel
theorem dX12_readClasses_80 : decode cX12_readClasses 80 = .ok (.iload_n 1, 1) := by decide +kernel
theorem dX12_readClasses_81 : decode cX12_readClasses 81 = .ok (.aload_n 0, 1) := by decide +kernel
theorem dX12_readClasses_82 : decode cX12_readClasses 82 = .ok (.getfield 24, 3) := by decide +kernel
theorem dX12_readClasses_85 : decode cX12_readClasses 85 = .ok (.bipush 12, 2) := by decide +kernel
theorem dX12_readClasses_87 : decode cX12_readClasses 87 = .ok (.iload_n 2, 1) := by decide +kernel
theorem dX12_readClasses_88 : decode cX12_readClasses 88 = .ok (.iadd, 1) := by decide +kernel
theorem dX12_readClasses_89 : decode cX12_readClasses 89 = .ok (.iconst 1, 1) := by decide +kernel
theorem dX12_readClasses_90 : decode cX12_readClasses 90 = .ok (.isub, 1) := by decide +kernel
theorem dX12_readClasses_91 : decode cX12_readClasses 91 = .ok (.iaload, 1) := by decide +kernel
theorem dX12_readClasses_92 : decode cX12_readClasses 92 = .ok (.if_icmp .lt 7, 3) := by decide +kernel
theorem dX12_readClasses_95 : decode cX12_readClasses 95 = .ok (.iconst 1, 1) := by decide +kernel
theorem dX12_readClasses_96 : decode cX12_readClasses 96 = .ok (.goto 4, 3) := by decide +kernel
theorem dX12_readClasses_99 : decode cX12_readClasses 99 = .ok (.iconst 0, 1) := by decide +kernel
theorem dX12_readClasses_100 : decode cX12_readClasses 100 = .ok (.iconst 3, 1) := by decide +kernel
theorem dX12_readClasses_101 : decode cX12_readClasses 101 = .ok (.invokevirtual 289, 3) := by decide +kernel
theorem dX12_readClasses_104 : decode cX12_readClasses 104 = .ok (.aload_n 0, 1) := by decide +kernel
theorem dX12_readClasses_105 : decode cX12_readClasses 105 = .ok (.iload_n 2, 1) := by decide +kernel
theorem dX12_readClasses_106 : decode cX12_readClasses 106 = .ok (.iconst 4, 1) := by decide +kernel
theorem dX12_readClasses_107 : decode cX12_readClasses 107 = .ok (.if_icmp .ne 7, 3) := by decide +kernel
theorem dX12_readClasses_110 : decode cX12_readClasses 110 = .ok (.iconst 1, 1) := by decide +kernel
theorem dX12_readClasses_111 : decode cX12_readClasses 111 = .ok (.goto 4, 3) := by decide +kernel
theorem dX12_readClasses_114 : decode cX12_readClasses 114 = .ok (.iconst 0, 1) := by decide +kernel
theorem dX12_readClasses_115 : decode cX12_readClasses 115 = .ok (.iconst 5, 1) := by decide +kernel
theorem dX12_readClasses_116 : decode cX12_readClasses 116 = .ok (.invokevirtual 289, 3) := by decide +kernel
theorem dX12_readClasses_119 : decode cX12_readClasses 119 = .ok (.aload_n 0, 1) := by decide +kernel
theorem dX12_readClasses_120 : decode cX12_readClasses 120 = .ok (.invokevirtual 275, 3) := by decide +kernel
theorem dX12_readClasses_123 : decode cX12_readClasses 123 = .ok (.ifCond .eq 27, 3) := by decide +kernel
theorem dX12_readClasses_126 : decode cX12_readClasses 126 = .ok (.aload_n 0, 1) := by decide +kernel
theorem dX12_readClasses_127 : decode cX12_readClasses 127 = .ok (.getfield 24, 3) := by decide +kernel
theorem dX12_readClasses_130 : decode cX12_readClasses 130 = .ok (.bipush 12, 2) := by decide +kernel
theorem dX12_readClasses_132 : decode cX12_readClasses 132 = .ok (.iload_n 2, 1) := by decide +kernel
theorem dX12_readClasses_133 : decode cX12_readClasses 133 = .ok (.iadd, 1) := by decide +kernel
theorem dX12_readClasses_134 : decode cX12_readClasses 134 = .ok (.iload_n 1, 1) := by decide +kernel
theorem dX12_readClasses_135 : decode cX12_readClasses 135 = .ok (.iastore, 1) := by decide +kernel
theorem dX12_readClasses_136 : decode cX12_readClasses 136 = .ok (.aload_n 0, 1) := by decide +kernel
theorem dX12_readClasses_137 : decode cX12_readClasses 137 = .ok (.getfield 24, 3) := by decide +kernel
theorem dX12_readClasses_140 : decode cX12_readClasses 140 = .ok (.iconst 3, 1) := by decide +kernel
theorem dX12_readClasses_141 : decode cX12_readClasses 141 = .ok (.dup2, 1) := by decide +kernel
theorem dX12_readClasses_142 : decode cX12_readClasses 142 = .ok (.iaload, 1) := by decide +kernel
theorem dX12_readClasses_143 : decode cX12_readClasses 143 = .ok (.iconst 1, 1) := by decide +kernel
theorem dX12_readClasses_144 : decode cX12_readClasses 144 = .ok (.iadd, 1) := by decide +kernel
theorem dX12_readClasses_145 : decode cX12_readClasses 145 = .ok (.iastore, 1) := by decide +kernel
theorem dX12_readClasses_146 : decode cX12_readClasses 146 = .ok (.aload_n 0, 1) := by decide +kernel
theorem dX12_readClasses_147 : decode cX12_readClasses 147 = .ok (.invokevirtual 259, 3) := by decide +kernel
theorem dX12_readClasses_150 : decode cX12_readClasses 150 = .ok (.goto (-115), 3) := by decide +kernel
theorem dX12_readClasses_153 : decode cX12_readClasses 153 = .ok (.aload_n 0, 1) := by decide +kernel
theorem dX12_readClasses_154 : decode cX12_readClasses 154 = .ok (.iconst 0, 1) := by decide +kernel
theorem dX12_readClasses_155 : decode cX12_readClasses 155 = .ok (.invokevirtual 311, 3) := by decide +kernel
theorem dX12_readClasses_158 : decode cX12_readClasses 158 = .ok (.return_, 1) := by decide +kernel
theorem dX12_readNew_0 : decode cX12_readNew 0 = .ok (.aload_n 0, 1) := by decide +kernel
theorem dX12_readNew_1 : decode cX12_readNew 1 = .ok (.iload_n 1, 1) := by decide +kernel
theorem dX12_readNew_2 : decode cX12_readNew 2 = .ok (.ifCond .eq 7, 3) := by decide +kernel
theorem dX12_readNew_5 : decode cX12_readNew 5 = .ok (.iconst 4, 1) := by decide +kernel
theorem dX12_readNew_6 : decode cX12_readNew 6 = .ok (.goto 4, 3) := by decide +kernel
theorem dX12_readNew_9 : decode cX12_readNew 9 = .ok (.iconst 5, 1) := by decide +kernel
theorem dX12_readNew_10 : decode cX12_readNew 10 = .ok (.iload_n 1, 1) := by decide +kernel
theorem dX12_readNew_11 : decode cX12_readNew 11 = .ok (.ifCond .eq 7, 3) := by decide +kernel
theorem dX12_readNew_14 : decode cX12_readNew 14 = .ok (.iconst 4, 1) := by decide +kernel
theorem dX12_readNew_15 : decode cX12_readNew 15 = .ok (.goto 5, 3) := by decide +kernel
theorem dX12_readNew_18 : decode cX12_readNew 18 = .ok (.bipush 6, 2) := by decide +kernel
theorem dX12_readNew_20 : decode cX12_readNew 20 = .ok (.invokevirtual 315, 3) := by decide +kernel
theorem dX12_readNew_23 : decode cX12_readNew 23 = .ok (.ifCond .ne 4, 3) := by decide +kernel
theorem dX12_readNew_26 : decode cX12_readNew 26 = .ok (.return_, 1) := by decide +kernel
theorem dX12_readNew_27 : decode cX12_readNew 27 = .ok (.aload_n 0, 1) := by decide +kernel
theorem dX12_readNew_28 : decode cX12_readNew 28 = .ok (.aload_n 0, 1) := by decide +kernel
theorem dX12_readNew_29 : decode cX12_readNew 29 = .ok (.getfield 239, 3) := by decide +kernel
theorem dX12_readNew_32 : decode cX12_readNew 32 = .ok (.iconst 1, 1) := by decide +kernel
theorem dX12_readNew_33 : decode cX12_readNew 33 = .ok (.if_icmp .eq 7, 3) := by decide +kernel
theorem dX12_readNew_36 : decode cX12_readNew 36 = .ok (.iconst 1, 1) := by decide +kernel
theorem dX12_readNew_37 : decode cX12_readNew 37 = .ok (.goto 4, 3) := by decide +kernel
theorem dX12_readNew_40 : decode cX12_readNew 40 = .ok (.iconst 0, 1) := by decide +kernel
theorem dX12_readNew_41 : decode cX12_readNew 41 = .ok (.iconst 1, 1) := by decide +kernel
theorem dX12_readNew_42 : decode cX12_readNew 42 = .ok (.invokevirtual 289, 3) := by decide +kernel
theorem dX12_readNew_45 : decode cX12_readNew 45 = .ok (.aload_n 0, 1) := by decide +kernel
theorem dX12_readNew_46 : decode cX12_readNew 46 = .ok (.aload_n 0, 1) := by decide +kernel
theorem dX12_readNew_47 : decode cX12_readNew 47 = .ok (.getfield 230, 3) := by decide +kernel
theorem dX12_readNew_50 : decode cX12_readNew 50 = .ok (.iconst 4, 1) := by decide +kernel
theorem dX12_readNew_51 : decode cX12_readNew 51 = .ok (.if_icmp .le 7, 3) := by decide +kernel
theorem dX12_readNew_54 : decode cX12_readNew 54 = .ok (.iconst 1, 1) := by decide +kernel
theorem dX12_readNew_55 : decode cX12_readNew 55 = .ok (.goto 4, 3) := by decide +kernel
theorem dX12_readNew_58 : decode cX12_readNew 58 = .ok (.iconst 0, 1) := by decide +kernel
theorem dX12_readNew_59 : decode cX12_readNew 59 = .ok (.iconst 2, 1) := by decide +kernel
theorem dX12_readNew_60 : decode cX12_readNew 60 = .ok (.invokevirtual 289, 3) := by decide +kernel
theorem dX12_readNew_63 : decode cX12_readNew 63 = .ok (.aload_n 0, 1) := by decide +kernel
theorem dX12_readNew_64 : decode cX12_readNew 64 = .ok (.aload_n 0, 1) := by decide +kernel
theorem dX12_readNew_65 : decode cX12_readNew 65 = .ok (.invokevirtual 275, 3) := by decide +kernel
theorem dX12_readNew_68 : decode cX12_readNew 68 = .ok (.ifCond .eq 23, 3) := by decide +kernel
theorem dX12_readNew_71 : decode cX12_readNew 71 = .ok (.aload_n 0, 1) := by decide +kernel
theorem dX12_readNew_72 : decode cX12_readNew 72 = .ok (.invokevirtual 293, 3) := by decide +kernel
theorem dX12_readNew_75 : decode cX12_readNew 75 = .ok (.iconst (-1), 1) := by decide +kernel
theorem dX12_readNew_76 : decode cX12_readNew 76 = .ok (.if_icmp .ne 11, 3) := by decide +kernel
theorem dX12_readNew_79 : decode cX12_readNew 79 = .ok (.aload_n 0, 1) := by decide +kernel
theorem dX12_readNew_80 : decode cX12_readNew 80 = .ok (.invokevirtual 296, 3) := by decide +kernel
theorem dX12_readNew_83 : decode cX12_readNew 83 = .ok (.iconst (-1), 1) := by decide +kernel
theorem dX12_readNew_84 : decode cX12_readNew 84 = .ok (.if_icmp .eq 7, 3) := by decide +kernel
theorem dX12_readNew_87 : decode cX12_readNew 87 = .ok (.iconst 1, 1) := by decide +kernel
theorem dX12_readNew_88 : decode cX12_readNew 88 = .ok (.goto 4, 3) := by decide +kernel
theorem dX12_readNew_91 : decode cX12_readNew 91 = .ok (.iconst 0, 1) := by decide +kernel
theorem dX12_readNew_92 : decode cX12_readNew 92 = .ok (.iconst 3, 1) := by decide +kernel
theorem dX12_readNew_93 : decode cX12_readNew 93 = .ok (.invokevirtual 289, 3) := by decide +kernel
theorem dX12_readNew_96 : decode cX12_readNew 96 = .ok (.aload_n 0, 1) := by decide +kernel
theorem dX12_readNew_97 : decode cX12_readNew 97 = .ok (.invokevirtual 275, 3) := by decide +kernel
theorem dX12_readNew_100 : decode cX12_readNew 100 = .ok (.ifCond .ne 4, 3) := by decide +kernel
theorem dX12_readNew_103 : decode cX12_readNew 103 = .ok (.return_, 1) := by decide +kernel
theorem dX12_readNew_104 : decode cX12_readNew 104 = .ok (.aload_n 0, 1) := by decide +kernel
theorem dX12_readNew_105 : decode cX12_readNew 105 = .ok (.getfield 233, 3) := by decide +kernel
theorem dX12_readNew_108 : decode cX12_readNew 108 = .ok (.l2i, 1) := by decide +kernel
theorem dX12_readNew_109 : decode cX12_readNew 109 = .ok (.istore_n 2, 1) := by decide +kernel
theorem dX12_readNew_110 : decode cX12_readNew 110 = .ok (.aload_n 0, 1) := by decide +kernel
theorem dX12_readNew_111 : decode cX12_readNew 111 = .ok (.getfield 230, 3) := by decide +kernel
theorem dX12_readNew_114 : decode cX12_readNew 114 = .ok (.istore_n 3, 1) := by decide +kernel
theorem dX12_readNew_115 : decode cX12_readNew 115 = .ok (.aload_n 0, 1) := by decide +kernel
theorem dX12_readNew_116 : decode cX12_readNew 116 = .ok (.invokevirtual 259, 3) := by decide +kernel
theorem dX12_readNew_119 : decode cX12_readNew 119 = .ok (.aload_n 0, 1) := by decide +kernel
theorem dX12_readNew_120 : decode cX12_readNew 120 = .ok (.iconst 0, 1) := by decide +kernel
theorem dX12_readNew_121 : decode cX12_readNew 121 = .ok (.invokevirtual 311, 3) := by decide +kernel
theorem dX12_readNew_124 : decode cX12_readNew 124 = .ok (.aload_n 0, 1) := by decide +kernel
theorem dX12_readNew_125 : decode cX12_readNew 125 = .ok (.invokevirtual 275, 3) := by decide +kernel
theorem dX12_readNew_128 : decode cX12_readNew 128 = .ok (.ifCond .eq 16, 3) := by decide +kernel
theorem dX12_readNew_131 : decode cX12_readNew 131 = .ok (.iload_n 1, 1) := by decide +kernel
theorem dX12_readNew_132 : decode cX12_readNew 132 = .ok (.ifCond .eq 12, 3) := by decide +kernel
theorem dX12_readNew_135 : decode cX12_readNew 135 = .ok (.aload_n 0, 1) := by decide +kernel
theorem dX12_readNew_136 : decode cX12_readNew 136 = .ok (.iload_n 2, 1) := by decide +kernel
theorem dX12_readNew_137 : decode cX12_readNew 137 = .ok (.iload_n 3, 1) := by decide +kernel
theorem dX12_readNew_138 : decode cX12_readNew 138 = .ok (.invokevirtual 113, 3) := by decide +kernel
theorem dX12_readNew_141 : decode cX12_readNew 141 = .ok (.goto 16, 3) := by decide +kernel
theorem dX12_readNew_144 : decode cX12_readNew 144 = .ok (.aload_n 0, 1) := by decide +kernel
theorem dX12_readNew_145 : decode cX12_readNew 145 = .ok (.invokevirtual 275, 3) := by decide +kernel
theorem dX12_readNew_148 : decode cX12_readNew 148 = .ok (.ifCond .eq 9, 3) := by decide +kernel
theorem dX12_readNew_151 : decode cX12_readNew 151 = .ok (.aload_n 0, 1) := by decide +kernel
theorem dX12_readNew_152 : decode cX12_readNew 152 = .ok (.iload_n 2, 1) := by decide +kernel
theorem dX12_readNew_153 : decode cX12_readNew 153 = .ok (.iload_n 3, 1) := by decide +kernel
theorem dX12_readNew_154 : decode cX12_readNew 154 = .ok (.invokevirtual 125, 3) := by decide +kernel
theorem dX12_readNew_157 : decode cX12_readNew 157 = .ok (.return_, 1) := by decide +kernel
theorem dX12_readPrice_0 : decode cX12_readPrice 0 = .ok (.aload_n 0, 1) := by decide +kernel
theorem dX12_readPrice_1 : decode cX12_readPrice 1 = .ok (.invokevirtual 259, 3) := by decide +kernel
theorem dX12_readPrice_4 : decode cX12_readPrice 4 = .ok (.aload_n 0, 1) := by decide +kernel
theorem dX12_readPrice_5 : decode cX12_readPrice 5 = .ok (.iconst 1, 1) := by decide +kernel
theorem dX12_readPrice_6 : decode cX12_readPrice 6 = .ok (.invokevirtual 319, 3) := by decide +kernel
theorem dX12_readPrice_9 : decode cX12_readPrice 9 = .ok (.istore_n 1, 1) := by decide +kernel
theorem dX12_readPrice_10 : decode cX12_readPrice 10 = .ok (.aload_n 0, 1) := by decide +kernel
theorem dX12_readPrice_11 : decode cX12_readPrice 11 = .ok (.iconst 0, 1) := by decide +kernel
theorem dX12_readPrice_12 : decode cX12_readPrice 12 = .ok (.aload_n 0, 1) := by decide +kernel
theorem dX12_readPrice_13 : decode cX12_readPrice 13 = .ok (.getfield 24, 3) := by decide +kernel
theorem dX12_readPrice_16 : decode cX12_readPrice 16 = .ok (.iconst 3, 1) := by decide +kernel
theorem dX12_readPrice_17 : decode cX12_readPrice 17 = .ok (.iaload, 1) := by decide +kernel
theorem dX12_readPrice_18 : decode cX12_readPrice 18 = .ok (.iconst 1, 1) := by decide +kernel
theorem dX12_readPrice_19 : decode cX12_readPrice 19 = .ok (.isub, 1) := by decide +kernel
theorem dX12_readPrice_20 : decode cX12_readPrice 20 = .ok (.invokevirtual 308, 3) := by decide +kernel
theorem dX12_readPrice_23 : decode cX12_readPrice 23 = .ok (.istore_n 2, 1) := by decide +kernel
theorem dX12_readPrice_24 : decode cX12_readPrice 24 = .ok (.aload_n 0, 1) := by decide +kernel
theorem dX12_readPrice_25 : decode cX12_readPrice 25 = .ok (.iconst 0, 1) := by decide +kernel
theorem dX12_readPrice_26 : decode cX12_readPrice 26 = .ok (.sipush 999, 3) := by decide +kernel
theorem dX12_readPrice_29 : decode cX12_readPrice 29 = .ok (.invokevirtual 308, 3) := by decide +kernel
theorem dX12_readPrice_32 : decode cX12_readPrice 32 = .ok (.istore_n 3, 1) := by decide +kernel
theorem dX12_readPrice_33 : decode cX12_readPrice 33 = .ok (.aload_n 0, 1) := by decide +kernel
theorem dX12_readPrice_34 : decode cX12_readPrice 34 = .ok (.iconst 0, 1) := by decide +kernel
theorem dX12_readPrice_35 : decode cX12_readPrice 35 = .ok (.invokevirtual 311, 3) := by decide +kernel
theorem dX12_readPrice_38 : decode cX12_readPrice 38 = .ok (.aload_n 0, 1) := by decide +kernel
theorem dX12_readPrice_39 : decode cX12_readPrice 39 = .ok (.invokevirtual 275, 3) := by decide +kernel
theorem dX12_readPrice_42 : decode cX12_readPrice 42 = .ok (.ifCond .eq 10, 3) := by decide +kernel
theorem dX12_readPrice_45 : decode cX12_readPrice 45 = .ok (.aload_n 0, 1) := by decide +kernel
theorem dX12_readPrice_46 : decode cX12_readPrice 46 = .ok (.iload_n 1, 1) := by decide +kernel
theorem dX12_readPrice_47 : decode cX12_readPrice 47 = .ok (.iload_n 2, 1) := by decide +kernel
theorem dX12_readPrice_48 : decode cX12_readPrice 48 = .ok (.iload_n 3, 1) := by decide +kernel
theorem dX12_readPrice_49 : decode cX12_readPrice 49 = .ok (.invokevirtual 119, 3) := by decide +kernel
theorem dX12_readPrice_52 : decode cX12_readPrice 52 = .ok (.return_, 1) := by decide +kernel
theorem dX12_readPlot_0 : decode cX12_readPlot 0 = .ok (.aload_n 0, 1) := by decide +kernel
theorem dX12_readPlot_1 : decode cX12_readPlot 1 = .ok (.bipush 6, 2) := by decide +kernel
theorem dX12_readPlot_3 : decode cX12_readPlot 3 = .ok (.bipush 8, 2) := by decide +kernel
theorem dX12_readPlot_5 : decode cX12_readPlot 5 = .ok (.invokevirtual 315, 3) := by decide +kernel
theorem dX12_readPlot_8 : decode cX12_readPlot 8 = .ok (.ifCond .ne 4, 3) := by decide +kernel
theorem dX12_readPlot_11 : decode cX12_readPlot 11 = .ok (.return_, 1) := by decide +kernel
theorem dX12_readPlot_12 : decode cX12_readPlot 12 = .ok (.aload_n 0, 1) := by decide +kernel
theorem dX12_readPlot_13 : decode cX12_readPlot 13 = .ok (.iconst 0, 1) := by decide +kernel
theorem dX12_readPlot_14 : decode cX12_readPlot 14 = .ok (.invokevirtual 319, 3) := by decide +kernel
theorem dX12_readPlot_17 : decode cX12_readPlot 17 = .ok (.istore_n 1, 1) := by decide +kernel
theorem dX12_readPlot_18 : decode cX12_readPlot 18 = .ok (.aload_n 0, 1) := by decide +kernel
theorem dX12_readPlot_19 : decode cX12_readPlot 19 = .ok (.iconst 1, 1) := by decide +kernel
theorem dX12_readPlot_20 : decode cX12_readPlot 20 = .ok (.invokevirtual 319, 3) := by decide +kernel
theorem dX12_readPlot_23 : decode cX12_readPlot 23 = .ok (.istore_n 2, 1) := by decide +kernel
theorem dX12_readPlot_24 : decode cX12_readPlot 24 = .ok (.aload_n 0, 1) := by decide +kernel
theorem dX12_readPlot_25 : decode cX12_readPlot 25 = .ok (.iconst 1, 1) := by decide +kernel
theorem dX12_readPlot_26 : decode cX12_readPlot 26 = .ok (.bipush 99, 2) := by decide +kernel
theorem dX12_readPlot_28 : decode cX12_readPlot 28 = .ok (.invokevirtual 308, 3) := by decide +kernel
theorem dX12_readPlot_31 : decode cX12_readPlot 31 = .ok (.istore_n 3, 1) := by decide +kernel
theorem dX12_readPlot_32 : decode cX12_readPlot 32 = .ok (.aload_n 0, 1) := by decide +kernel
theorem dX12_readPlot_33 : decode cX12_readPlot 33 = .ok (.iconst 0, 1) := by decide +kernel
theorem dX12_readPlot_34 : decode cX12_readPlot 34 = .ok (.invokevirtual 311, 3) := by decide +kernel
theorem dX12_readPlot_37 : decode cX12_readPlot 37 = .ok (.aload_n 0, 1) := by decide +kernel
theorem dX12_readPlot_38 : decode cX12_readPlot 38 = .ok (.invokevirtual 275, 3) := by decide +kernel
theorem dX12_readPlot_41 : decode cX12_readPlot 41 = .ok (.ifCond .eq 10, 3) := by decide +kernel
theorem dX12_readPlot_44 : decode cX12_readPlot 44 = .ok (.aload_n 0, 1) := by decide +kernel
theorem dX12_readPlot_45 : decode cX12_readPlot 45 = .ok (.iload_n 1, 1) := by decide +kernel
theorem dX12_readPlot_46 : decode cX12_readPlot 46 = .ok (.iload_n 2, 1) := by decide +kernel
theorem dX12_readPlot_47 : decode cX12_readPlot 47 = .ok (.iload_n 3, 1) := by decide +kernel
theorem dX12_readPlot_48 : decode cX12_readPlot 48 = .ok (.invokevirtual 130, 3) := by decide +kernel
theorem dX12_readPlot_51 : decode cX12_readPlot 51 = .ok (.return_, 1) := by decide +kernel
theorem dX12_readTank_0 : decode cX12_readTank 0 = .ok (.aload_n 0, 1) := by decide +kernel
theorem dX12_readTank_1 : decode cX12_readTank 1 = .ok (.bipush 8, 2) := by decide +kernel
theorem dX12_readTank_3 : decode cX12_readTank 3 = .ok (.iconst 5, 1) := by decide +kernel
theorem dX12_readTank_4 : decode cX12_readTank 4 = .ok (.invokevirtual 315, 3) := by decide +kernel
theorem dX12_readTank_7 : decode cX12_readTank 7 = .ok (.ifCond .ne 4, 3) := by decide +kernel
theorem dX12_readTank_10 : decode cX12_readTank 10 = .ok (.return_, 1) := by decide +kernel
theorem dX12_readTank_11 : decode cX12_readTank 11 = .ok (.aload_n 0, 1) := by decide +kernel
theorem dX12_readTank_12 : decode cX12_readTank 12 = .ok (.iconst 1, 1) := by decide +kernel
theorem dX12_readTank_13 : decode cX12_readTank 13 = .ok (.sipush 20000, 3) := by decide +kernel
theorem dX12_readTank_16 : decode cX12_readTank 16 = .ok (.invokevirtual 308, 3) := by decide +kernel
theorem dX12_readTank_19 : decode cX12_readTank 19 = .ok (.istore_n 1, 1) := by decide +kernel
theorem dX12_readTank_20 : decode cX12_readTank 20 = .ok (.aload_n 0, 1) := by decide +kernel
theorem dX12_readTank_21 : decode cX12_readTank 21 = .ok (.iconst 0, 1) := by decide +kernel
theorem dX12_readTank_22 : decode cX12_readTank 22 = .ok (.invokevirtual 311, 3) := by decide +kernel
theorem dX12_readTank_25 : decode cX12_readTank 25 = .ok (.aload_n 0, 1) := by decide +kernel
theorem dX12_readTank_26 : decode cX12_readTank 26 = .ok (.invokevirtual 275, 3) := by decide +kernel
theorem dX12_readTank_29 : decode cX12_readTank 29 = .ok (.ifCond .eq 8, 3) := by decide +kernel
theorem dX12_readTank_32 : decode cX12_readTank 32 = .ok (.aload_n 0, 1) := by decide +kernel
theorem dX12_readTank_33 : decode cX12_readTank 33 = .ok (.iload_n 1, 1) := by decide +kernel
theorem dX12_readTank_34 : decode cX12_readTank 34 = .ok (.invokevirtual 133, 3) := by decide +kernel
theorem dX12_readTank_37 : decode cX12_readTank 37 = .ok (.return_, 1) := by decide +kernel
theorem dX12_readLoad_0 : decode cX12_readLoad 0 = .ok (.aload_n 0, 1) := by decide +kernel
theorem dX12_readLoad_1 : decode cX12_readLoad 1 = .ok (.invokevirtual 259, 3) := by decide +kernel
theorem dX12_readLoad_4 : decode cX12_readLoad 4 = .ok (.aload_n 0, 1) := by decide +kernel
theorem dX12_readLoad_5 : decode cX12_readLoad 5 = .ok (.iconst 0, 1) := by decide +kernel
theorem dX12_readLoad_6 : decode cX12_readLoad 6 = .ok (.aload_n 0, 1) := by decide +kernel
theorem dX12_readLoad_7 : decode cX12_readLoad 7 = .ok (.getfield 24, 3) := by decide +kernel
theorem dX12_readLoad_10 : decode cX12_readLoad 10 = .ok (.bipush 6, 2) := by decide +kernel
theorem dX12_readLoad_12 : decode cX12_readLoad 12 = .ok (.iaload, 1) := by decide +kernel
theorem dX12_readLoad_13 : decode cX12_readLoad 13 = .ok (.iconst 1, 1) := by decide +kernel
theorem dX12_readLoad_14 : decode cX12_readLoad 14 = .ok (.isub, 1) := by decide +kernel
theorem dX12_readLoad_15 : decode cX12_readLoad 15 = .ok (.invokevirtual 308, 3) := by decide +kernel
theorem dX12_readLoad_18 : decode cX12_readLoad 18 = .ok (.istore_n 1, 1) := by decide +kernel
theorem dX12_readLoad_19 : decode cX12_readLoad 19 = .ok (.aload_n 0, 1) := by decide +kernel
theorem dX12_readLoad_20 : decode cX12_readLoad 20 = .ok (.iconst 1, 1) := by decide +kernel
theorem dX12_readLoad_21 : decode cX12_readLoad 21 = .ok (.sipush 5000, 3) := by decide +kernel
theorem dX12_readLoad_24 : decode cX12_readLoad 24 = .ok (.invokevirtual 308, 3) := by decide +kernel
theorem dX12_readLoad_27 : decode cX12_readLoad 27 = .ok (.istore_n 2, 1) := by decide +kernel
theorem dX12_readLoad_28 : decode cX12_readLoad 28 = .ok (.aload_n 0, 1) := by decide +kernel
theorem dX12_readLoad_29 : decode cX12_readLoad 29 = .ok (.iconst 0, 1) := by decide +kernel
theorem dX12_readLoad_30 : decode cX12_readLoad 30 = .ok (.sipush 250, 3) := by decide +kernel
theorem dX12_readLoad_33 : decode cX12_readLoad 33 = .ok (.invokevirtual 308, 3) := by decide +kernel
theorem dX12_readLoad_36 : decode cX12_readLoad 36 = .ok (.istore_n 3, 1) := by decide +kernel
theorem dX12_readLoad_37 : decode cX12_readLoad 37 = .ok (.aload_n 0, 1) := by decide +kernel
theorem dX12_readLoad_38 : decode cX12_readLoad 38 = .ok (.aload_n 0, 1) := by decide +kernel
theorem dX12_readLoad_39 : decode cX12_readLoad 39 = .ok (.invokevirtual 275, 3) := by decide +kernel
theorem dX12_readLoad_42 : decode cX12_readLoad 42 = .ok (.ifCond .eq 17, 3) := by decide +kernel
theorem dX12_readLoad_45 : decode cX12_readLoad 45 = .ok (.aload_n 0, 1) := by decide +kernel
theorem dX12_readLoad_46 : decode cX12_readLoad 46 = .ok (.iload_n 1, 1) := by decide +kernel
theorem dX12_readLoad_47 : decode cX12_readLoad 47 = .ok (.iload_n 2, 1) := by decide +kernel
theorem dX12_readLoad_48 : decode cX12_readLoad 48 = .ok (.iload_n 3, 1) := by decide +kernel
theorem dX12_readLoad_49 : decode cX12_readLoad 49 = .ok (.invokevirtual 323, 3) := by decide +kernel
theorem dX12_readLoad_52 : decode cX12_readLoad 52 = .ok (.ifCond .eq 7, 3) := by decide +kernel
theorem dX12_readLoad_55 : decode cX12_readLoad 55 = .ok (.iconst 1, 1) := by decide +kernel
theorem dX12_readLoad_56 : decode cX12_readLoad 56 = .ok (.goto 4, 3) := by decide +kernel
theorem dX12_readLoad_59 : decode cX12_readLoad 59 = .ok (.iconst 0, 1) := by decide +kernel
theorem dX12_readLoad_60 : decode cX12_readLoad 60 = .ok (.invokevirtual 311, 3) := by decide +kernel
theorem dX12_readLoad_63 : decode cX12_readLoad 63 = .ok (.aload_n 0, 1) := by decide +kernel
theorem dX12_readLoad_64 : decode cX12_readLoad 64 = .ok (.invokevirtual 275, 3) := by decide +kernel
theorem dX12_readLoad_67 : decode cX12_readLoad 67 = .ok (.ifCond .eq 12, 3) := by decide +kernel
theorem dX12_readLoad_70 : decode cX12_readLoad 70 = .ok (.aload_n 0, 1) := by decide +kernel
theorem dX12_readLoad_71 : decode cX12_readLoad 71 = .ok (.iload_n 1, 1) := by decide +kernel
theorem dX12_readLoad_72 : decode cX12_readLoad 72 = .ok (.iload_n 2, 1) := by decide +kernel
theorem dX12_readLoad_73 : decode cX12_readLoad 73 = .ok (.iload_n 3, 1) := by decide +kernel
theorem dX12_readLoad_74 : decode cX12_readLoad 74 = .ok (.invokevirtual 137, 3) := by decide +kernel
theorem dX12_readLoad_77 : decode cX12_readLoad 77 = .ok (.istore 4, 2) := by decide +kernel
theorem dX12_readLoad_79 : decode cX12_readLoad 79 = .ok (.return_, 1) := by decide +kernel
theorem dX12_takeTank_0 : decode cX12_takeTank 0 = .ok (.aload_n 0, 1) := by decide +kernel
theorem dX12_takeTank_1 : decode cX12_takeTank 1 = .ok (.iconst 0, 1) := by decide +kernel
theorem dX12_takeTank_2 : decode cX12_takeTank 2 = .ok (.aload_n 0, 1) := by decide +kernel
theorem dX12_takeTank_3 : decode cX12_takeTank 3 = .ok (.getfield 24, 3) := by decide +kernel
theorem dX12_takeTank_6 : decode cX12_takeTank 6 = .ok (.bipush 8, 2) := by decide +kernel
theorem dX12_takeTank_8 : decode cX12_takeTank 8 = .ok (.iaload, 1) := by decide +kernel
theorem dX12_takeTank_9 : decode cX12_takeTank 9 = .ok (.iconst 1, 1) := by decide +kernel
theorem dX12_takeTank_10 : decode cX12_takeTank 10 = .ok (.isub, 1) := by decide +kernel
theorem dX12_takeTank_11 : decode cX12_takeTank 11 = .ok (.invokevirtual 308, 3) := by decide +kernel
theorem dX12_takeTank_14 : decode cX12_takeTank 14 = .ok (.ireturn, 1) := by decide +kernel
theorem dX12_readBottle_0 : decode cX12_readBottle 0 = .ok (.aload_n 0, 1) := by decide +kernel
theorem dX12_readBottle_1 : decode cX12_readBottle 1 = .ok (.invokevirtual 259, 3) := by decide +kernel
theorem dX12_readBottle_4 : decode cX12_readBottle 4 = .ok (.aload_n 0, 1) := by decide +kernel
theorem dX12_readBottle_5 : decode cX12_readBottle 5 = .ok (.invokevirtual 326, 3) := by decide +kernel
theorem dX12_readBottle_8 : decode cX12_readBottle 8 = .ok (.istore_n 1, 1) := by decide +kernel
theorem dX12_readBottle_9 : decode cX12_readBottle 9 = .ok (.aload_n 0, 1) := by decide +kernel
theorem dX12_readBottle_10 : decode cX12_readBottle 10 = .ok (.iconst 1, 1) := by decide +kernel
theorem dX12_readBottle_11 : decode cX12_readBottle 11 = .ok (.sipush 20000, 3) := by decide +kernel
theorem dX12_readBottle_14 : decode cX12_readBottle 14 = .ok (.invokevirtual 308, 3) := by decide +kernel
theorem dX12_readBottle_17 : decode cX12_readBottle 17 = .ok (.istore_n 2, 1) := by decide +kernel
theorem dX12_readBottle_18 : decode cX12_readBottle 18 = .ok (.aload_n 0, 1) := by decide +kernel
theorem dX12_readBottle_19 : decode cX12_readBottle 19 = .ok (.aload_n 0, 1) := by decide +kernel
theorem dX12_readBottle_20 : decode cX12_readBottle 20 = .ok (.invokevirtual 275, 3) := by decide +kernel
theorem dX12_readBottle_23 : decode cX12_readBottle 23 = .ok (.ifCond .eq 16, 3) := by decide +kernel
theorem dX12_readBottle_26 : decode cX12_readBottle 26 = .ok (.aload_n 0, 1) := by decide +kernel
theorem dX12_readBottle_27 : decode cX12_readBottle 27 = .ok (.iload_n 1, 1) := by decide +kernel
theorem dX12_readBottle_28 : decode cX12_readBottle 28 = .ok (.iload_n 2, 1) := by decide +kernel
theorem dX12_readBottle_29 : decode cX12_readBottle 29 = .ok (.invokevirtual 329, 3) := by decide +kernel
theorem dX12_readBottle_32 : decode cX12_readBottle 32 = .ok (.ifCond .ne 7, 3) := by decide +kernel
theorem dX12_readBottle_35 : decode cX12_readBottle 35 = .ok (.iconst 1, 1) := by decide +kernel
theorem dX12_readBottle_36 : decode cX12_readBottle 36 = .ok (.goto 4, 3) := by decide +kernel
theorem dX12_readBottle_39 : decode cX12_readBottle 39 = .ok (.iconst 0, 1) := by decide +kernel
theorem dX12_readBottle_40 : decode cX12_readBottle 40 = .ok (.invokevirtual 311, 3) := by decide +kernel
theorem dX12_readBottle_43 : decode cX12_readBottle 43 = .ok (.aload_n 0, 1) := by decide +kernel
theorem dX12_readBottle_44 : decode cX12_readBottle 44 = .ok (.invokevirtual 275, 3) := by decide +kernel
theorem dX12_readBottle_47 : decode cX12_readBottle 47 = .ok (.ifCond .eq 10, 3) := by decide +kernel
theorem dX12_readBottle_50 : decode cX12_readBottle 50 = .ok (.aload_n 0, 1) := by decide +kernel
theorem dX12_readBottle_51 : decode cX12_readBottle 51 = .ok (.iload_n 1, 1) := by decide +kernel
theorem dX12_readBottle_52 : decode cX12_readBottle 52 = .ok (.iload_n 2, 1) := by decide +kernel
theorem dX12_readBottle_53 : decode cX12_readBottle 53 = .ok (.invokevirtual 332, 3) := by decide +kernel
theorem dX12_readBottle_56 : decode cX12_readBottle 56 = .ok (.istore_n 3, 1) := by decide +kernel
theorem dX12_readBottle_57 : decode cX12_readBottle 57 = .ok (.return_, 1) := by decide +kernel
theorem dX12_readSell_0 : decode cX12_readSell 0 = .ok (.aload_n 0, 1) := by decide +kernel
theorem dX12_readSell_1 : decode cX12_readSell 1 = .ok (.invokevirtual 259, 3) := by decide +kernel
theorem dX12_readSell_4 : decode cX12_readSell 4 = .ok (.aload_n 0, 1) := by decide +kernel
theorem dX12_readSell_5 : decode cX12_readSell 5 = .ok (.iconst 0, 1) := by decide +kernel
theorem dX12_readSell_6 : decode cX12_readSell 6 = .ok (.aload_n 0, 1) := by decide +kernel
theorem dX12_readSell_7 : decode cX12_readSell 7 = .ok (.getfield 24, 3) := by decide +kernel
theorem dX12_readSell_10 : decode cX12_readSell 10 = .ok (.bipush 9, 2) := by decide +kernel
theorem dX12_readSell_12 : decode cX12_readSell 12 = .ok (.iaload, 1) := by decide +kernel
theorem dX12_readSell_13 : decode cX12_readSell 13 = .ok (.iconst 1, 1) := by decide +kernel
theorem dX12_readSell_14 : decode cX12_readSell 14 = .ok (.isub, 1) := by decide +kernel
theorem dX12_readSell_15 : decode cX12_readSell 15 = .ok (.invokevirtual 308, 3) := by decide +kernel
theorem dX12_readSell_18 : decode cX12_readSell 18 = .ok (.istore_n 1, 1) := by decide +kernel
theorem dX12_readSell_19 : decode cX12_readSell 19 = .ok (.aload_n 0, 1) := by decide +kernel
theorem dX12_readSell_20 : decode cX12_readSell 20 = .ok (.iconst 1, 1) := by decide +kernel
theorem dX12_readSell_21 : decode cX12_readSell 21 = .ok (.sipush 20000, 3) := by decide +kernel
theorem dX12_readSell_24 : decode cX12_readSell 24 = .ok (.invokevirtual 308, 3) := by decide +kernel
theorem dX12_readSell_27 : decode cX12_readSell 27 = .ok (.istore_n 2, 1) := by decide +kernel
theorem dX12_readSell_28 : decode cX12_readSell 28 = .ok (.aload_n 0, 1) := by decide +kernel
theorem dX12_readSell_29 : decode cX12_readSell 29 = .ok (.iconst 1, 1) := by decide +kernel
theorem dX12_readSell_30 : decode cX12_readSell 30 = .ok (.sipush 9999, 3) := by decide +kernel
theorem dX12_readSell_33 : decode cX12_readSell 33 = .ok (.invokevirtual 308, 3) := by decide +kernel
theorem dX12_readSell_36 : decode cX12_readSell 36 = .ok (.istore_n 3, 1) := by decide +kernel
theorem dX12_readSell_37 : decode cX12_readSell 37 = .ok (.aload_n 0, 1) := by decide +kernel
theorem dX12_readSell_38 : decode cX12_readSell 38 = .ok (.aload_n 0, 1) := by decide +kernel
theorem dX12_readSell_39 : decode cX12_readSell 39 = .ok (.invokevirtual 275, 3) := by decide +kernel
theorem dX12_readSell_42 : decode cX12_readSell 42 = .ok (.ifCond .eq 17, 3) := by decide +kernel
theorem dX12_readSell_45 : decode cX12_readSell 45 = .ok (.aload_n 0, 1) := by decide +kernel
theorem dX12_readSell_46 : decode cX12_readSell 46 = .ok (.iload_n 1, 1) := by decide +kernel
theorem dX12_readSell_47 : decode cX12_readSell 47 = .ok (.iload_n 2, 1) := by decide +kernel
theorem dX12_readSell_48 : decode cX12_readSell 48 = .ok (.iload_n 3, 1) := by decide +kernel
theorem dX12_readSell_49 : decode cX12_readSell 49 = .ok (.invokevirtual 335, 3) := by decide +kernel
theorem dX12_readSell_52 : decode cX12_readSell 52 = .ok (.ifCond .ne 7, 3) := by decide +kernel
theorem dX12_readSell_55 : decode cX12_readSell 55 = .ok (.iconst 1, 1) := by decide +kernel
theorem dX12_readSell_56 : decode cX12_readSell 56 = .ok (.goto 4, 3) := by decide +kernel
theorem dX12_readSell_59 : decode cX12_readSell 59 = .ok (.iconst 0, 1) := by decide +kernel
theorem dX12_readSell_60 : decode cX12_readSell 60 = .ok (.invokevirtual 311, 3) := by decide +kernel
theorem dX12_readSell_63 : decode cX12_readSell 63 = .ok (.aload_n 0, 1) := by decide +kernel
theorem dX12_readSell_64 : decode cX12_readSell 64 = .ok (.invokevirtual 275, 3) := by decide +kernel
theorem dX12_readSell_67 : decode cX12_readSell 67 = .ok (.ifCond .eq 12, 3) := by decide +kernel
theorem dX12_readSell_70 : decode cX12_readSell 70 = .ok (.aload_n 0, 1) := by decide +kernel
theorem dX12_readSell_71 : decode cX12_readSell 71 = .ok (.iload_n 1, 1) := by decide +kernel
theorem dX12_readSell_72 : decode cX12_readSell 72 = .ok (.iload_n 2, 1) := by decide +kernel
theorem dX12_readSell_73 : decode cX12_readSell 73 = .ok (.iload_n 3, 1) := by decide +kernel
theorem dX12_readSell_74 : decode cX12_readSell 74 = .ok (.invokevirtual 339, 3) := by decide +kernel
theorem dX12_readSell_77 : decode cX12_readSell 77 = .ok (.istore 4, 2) := by decide +kernel
theorem dX12_readSell_79 : decode cX12_readSell 79 = .ok (.return_, 1) := by decide +kernel
theorem dX12_readPay_0 : decode cX12_readPay 0 = .ok (.aload_n 0, 1) := by decide +kernel
theorem dX12_readPay_1 : decode cX12_readPay 1 = .ok (.invokevirtual 259, 3) := by decide +kernel
theorem dX12_readPay_4 : decode cX12_readPay 4 = .ok (.aload_n 0, 1) := by decide +kernel
theorem dX12_readPay_5 : decode cX12_readPay 5 = .ok (.iconst 0, 1) := by decide +kernel
theorem dX12_readPay_6 : decode cX12_readPay 6 = .ok (.invokevirtual 319, 3) := by decide +kernel
theorem dX12_readPay_9 : decode cX12_readPay 9 = .ok (.istore_n 1, 1) := by decide +kernel
theorem dX12_readPay_10 : decode cX12_readPay 10 = .ok (.aload_n 0, 1) := by decide +kernel
theorem dX12_readPay_11 : decode cX12_readPay 11 = .ok (.aload_n 0, 1) := by decide +kernel
theorem dX12_readPay_12 : decode cX12_readPay 12 = .ok (.invokevirtual 275, 3) := by decide +kernel
theorem dX12_readPay_15 : decode cX12_readPay 15 = .ok (.ifCond .eq 15, 3) := by decide +kernel
theorem dX12_readPay_18 : decode cX12_readPay 18 = .ok (.aload_n 0, 1) := by decide +kernel
theorem dX12_readPay_19 : decode cX12_readPay 19 = .ok (.iload_n 1, 1) := by decide +kernel
theorem dX12_readPay_20 : decode cX12_readPay 20 = .ok (.invokevirtual 342, 3) := by decide +kernel
theorem dX12_readPay_23 : decode cX12_readPay 23 = .ok (.ifCond .ne 7, 3) := by decide +kernel
theorem dX12_readPay_26 : decode cX12_readPay 26 = .ok (.iconst 1, 1) := by decide +kernel
theorem dX12_readPay_27 : decode cX12_readPay 27 = .ok (.goto 4, 3) := by decide +kernel
theorem dX12_readPay_30 : decode cX12_readPay 30 = .ok (.iconst 0, 1) := by decide +kernel
theorem dX12_readPay_31 : decode cX12_readPay 31 = .ok (.invokevirtual 311, 3) := by decide +kernel
theorem dX12_readPay_34 : decode cX12_readPay 34 = .ok (.aload_n 0, 1) := by decide +kernel
theorem dX12_readPay_35 : decode cX12_readPay 35 = .ok (.invokevirtual 275, 3) := by decide +kernel
theorem dX12_readPay_38 : decode cX12_readPay 38 = .ok (.ifCond .eq 9, 3) := by decide +kernel
theorem dX12_readPay_41 : decode cX12_readPay 41 = .ok (.aload_n 0, 1) := by decide +kernel
theorem dX12_readPay_42 : decode cX12_readPay 42 = .ok (.iload_n 1, 1) := by decide +kernel
theorem dX12_readPay_43 : decode cX12_readPay 43 = .ok (.invokevirtual 345, 3) := by decide +kernel
theorem dX12_readPay_46 : decode cX12_readPay 46 = .ok (.istore_n 2, 1) := by decide +kernel
theorem dX12_readPay_47 : decode cX12_readPay 47 = .ok (.return_, 1) := by decide +kernel
theorem dX12_readPump_0 : decode cX12_readPump 0 = .ok (.aload_n 0, 1) := by decide +kernel
theorem dX12_readPump_1 : decode cX12_readPump 1 = .ok (.invokevirtual 259, 3) := by decide +kernel
theorem dX12_readPump_4 : decode cX12_readPump 4 = .ok (.aload_n 0, 1) := by decide +kernel
theorem dX12_readPump_5 : decode cX12_readPump 5 = .ok (.invokevirtual 326, 3) := by decide +kernel
theorem dX12_readPump_8 : decode cX12_readPump 8 = .ok (.istore_n 1, 1) := by decide +kernel
theorem dX12_readPump_9 : decode cX12_readPump 9 = .ok (.aload_n 0, 1) := by decide +kernel
theorem dX12_readPump_10 : decode cX12_readPump 10 = .ok (.iconst 0, 1) := by decide +kernel
theorem dX12_readPump_11 : decode cX12_readPump 11 = .ok (.aload_n 0, 1) := by decide +kernel
theorem dX12_readPump_12 : decode cX12_readPump 12 = .ok (.getfield 24, 3) := by decide +kernel
theorem dX12_readPump_15 : decode cX12_readPump 15 = .ok (.bipush 8, 2) := by decide +kernel
theorem dX12_readPump_17 : decode cX12_readPump 17 = .ok (.iaload, 1) := by decide +kernel
theorem dX12_readPump_18 : decode cX12_readPump 18 = .ok (.iconst 1, 1) := by decide +kernel
theorem dX12_readPump_19 : decode cX12_readPump 19 = .ok (.isub, 1) := by decide +kernel
theorem dX12_readPump_20 : decode cX12_readPump 20 = .ok (.invokevirtual 286, 3) := by decide +kernel
theorem dX12_readPump_23 : decode cX12_readPump 23 = .ok (.istore_n 2, 1) := by decide +kernel
theorem dX12_readPump_24 : decode cX12_readPump 24 = .ok (.aload_n 0, 1) := by decide +kernel
theorem dX12_readPump_25 : decode cX12_readPump 25 = .ok (.iload_n 2, 1) := by decide +kernel
theorem dX12_readPump_26 : decode cX12_readPump 26 = .ok (.iload_n 1, 1) := by decide +kernel
theorem dX12_readPump_27 : decode cX12_readPump 27 = .ok (.if_icmp .ne 7, 3) := by decide +kernel
theorem dX12_readPump_30 : decode cX12_readPump 30 = .ok (.iconst 1, 1) := by decide +kernel
theorem dX12_readPump_31 : decode cX12_readPump 31 = .ok (.goto 4, 3) := by decide +kernel
theorem dX12_readPump_34 : decode cX12_readPump 34 = .ok (.iconst 0, 1) := by decide +kernel
theorem dX12_readPump_35 : decode cX12_readPump 35 = .ok (.iconst 3, 1) := by decide +kernel
theorem dX12_readPump_36 : decode cX12_readPump 36 = .ok (.invokevirtual 289, 3) := by decide +kernel
theorem dX12_readPump_39 : decode cX12_readPump 39 = .ok (.aload_n 0, 1) := by decide +kernel
theorem dX12_readPump_40 : decode cX12_readPump 40 = .ok (.invokevirtual 275, 3) := by decide +kernel
theorem dX12_readPump_43 : decode cX12_readPump 43 = .ok (.ifCond .eq 7, 3) := by decide +kernel
theorem dX12_readPump_46 : decode cX12_readPump 46 = .ok (.aload_n 0, 1) := by decide +kernel
theorem dX12_readPump_47 : decode cX12_readPump 47 = .ok (.invokevirtual 259, 3) := by decide +kernel
theorem dX12_readPump_50 : decode cX12_readPump 50 = .ok (.aload_n 0, 1) := by decide +kernel
theorem dX12_readPump_51 : decode cX12_readPump 51 = .ok (.aload_n 0, 1) := by decide +kernel
theorem dX12_readPump_52 : decode cX12_readPump 52 = .ok (.invokevirtual 275, 3) := by decide +kernel
theorem dX12_readPump_55 : decode cX12_readPump 55 = .ok (.ifCond .eq 16, 3) := by decide +kernel
theorem dX12_readPump_58 : decode cX12_readPump 58 = .ok (.aload_n 0, 1) := by decide +kernel
theorem dX12_readPump_59 : decode cX12_readPump 59 = .ok (.iload_n 1, 1) := by decide +kernel
theorem dX12_readPump_60 : decode cX12_readPump 60 = .ok (.iload_n 2, 1) := by decide +kernel
theorem dX12_readPump_61 : decode cX12_readPump 61 = .ok (.invokevirtual 348, 3) := by decide +kernel
theorem dX12_readPump_64 : decode cX12_readPump 64 = .ok (.ifCond .ne 7, 3) := by decide +kernel
theorem dX12_readPump_67 : decode cX12_readPump 67 = .ok (.iconst 1, 1) := by decide +kernel
theorem dX12_readPump_68 : decode cX12_readPump 68 = .ok (.goto 4, 3) := by decide +kernel
theorem dX12_readPump_71 : decode cX12_readPump 71 = .ok (.iconst 0, 1) := by decide +kernel
theorem dX12_readPump_72 : decode cX12_readPump 72 = .ok (.invokevirtual 311, 3) := by decide +kernel
theorem dX12_readPump_75 : decode cX12_readPump 75 = .ok (.aload_n 0, 1) := by decide +kernel
theorem dX12_readPump_76 : decode cX12_readPump 76 = .ok (.invokevirtual 275, 3) := by decide +kernel
theorem dX12_readPump_79 : decode cX12_readPump 79 = .ok (.ifCond .eq 10, 3) := by decide +kernel
theorem dX12_readPump_82 : decode cX12_readPump 82 = .ok (.aload_n 0, 1) := by decide +kernel
theorem dX12_readPump_83 : decode cX12_readPump 83 = .ok (.iload_n 1, 1) := by decide +kernel
theorem dX12_readPump_84 : decode cX12_readPump 84 = .ok (.iload_n 2, 1) := by decide +kernel
theorem dX12_readPump_85 : decode cX12_readPump 85 = .ok (.invokevirtual 351, 3) := by decide +kernel
theorem dX12_readPump_88 : decode cX12_readPump 88 = .ok (.istore_n 3, 1) := by decide +kernel
theorem dX12_readPump_89 : decode cX12_readPump 89 = .ok (.return_, 1) := by decide +kernel
theorem dX12_readStatement_0 : decode cX12_readStatement 0 = .ok (.aload_n 0, 1) := by decide +kernel
theorem dX12_readStatement_1 : decode cX12_readStatement 1 = .ok (.aload_n 0, 1) := by decide +kernel
theorem dX12_readStatement_2 : decode cX12_readStatement 2 = .ok (.getfield 48, 3) := by decide +kernel
theorem dX12_readStatement_5 : decode cX12_readStatement 5 = .ok (.invokevirtual 304, 3) := by decide +kernel
theorem dX12_readStatement_8 : decode cX12_readStatement 8 = .ok (.ifCond .eq 11, 3) := by decide +kernel
theorem dX12_readStatement_11 : decode cX12_readStatement 11 = .ok (.aload_n 0, 1) := by decide +kernel
theorem dX12_readStatement_12 : decode cX12_readStatement 12 = .ok (.iconst 1, 1) := by decide +kernel
theorem dX12_readStatement_13 : decode cX12_readStatement 13 = .ok (.invokevirtual 354, 3) := by decide +kernel
theorem dX12_readStatement_16 : decode cX12_readStatement 16 = .ok (.goto 171, 3) := by decide +kernel
theorem dX12_readStatement_19 : decode cX12_readStatement 19 = .ok (.aload_n 0, 1) := by decide +kernel
theorem dX12_readStatement_20 : decode cX12_readStatement 20 = .ok (.aload_n 0, 1) := by decide +kernel
theorem dX12_readStatement_21 : decode cX12_readStatement 21 = .ok (.getfield 58, 3) := by decide +kernel
theorem dX12_readStatement_24 : decode cX12_readStatement 24 = .ok (.invokevirtual 304, 3) := by decide +kernel
theorem dX12_readStatement_27 : decode cX12_readStatement 27 = .ok (.ifCond .eq 11, 3) := by decide +kernel
theorem dX12_readStatement_30 : decode cX12_readStatement 30 = .ok (.aload_n 0, 1) := by decide +kernel
theorem dX12_readStatement_31 : decode cX12_readStatement 31 = .ok (.iconst 0, 1) := by decide +kernel
theorem dX12_readStatement_32 : decode cX12_readStatement 32 = .ok (.invokevirtual 354, 3) := by decide +kernel
theorem dX12_readStatement_35 : decode cX12_readStatement 35 = .ok (.goto 152, 3) := by decide +kernel
theorem dX12_readStatement_38 : decode cX12_readStatement 38 = .ok (.aload_n 0, 1) := by decide +kernel
theorem dX12_readStatement_39 : decode cX12_readStatement 39 = .ok (.aload_n 0, 1) := by decide +kernel
theorem dX12_readStatement_40 : decode cX12_readStatement 40 = .ok (.getfield 53, 3) := by decide +kernel
theorem dX12_readStatement_43 : decode cX12_readStatement 43 = .ok (.invokevirtual 304, 3) := by decide +kernel
theorem dX12_readStatement_46 : decode cX12_readStatement 46 = .ok (.ifCond .eq 10, 3) := by decide +kernel
theorem dX12_readStatement_49 : decode cX12_readStatement 49 = .ok (.aload_n 0, 1) := by decide +kernel
theorem dX12_readStatement_50 : decode cX12_readStatement 50 = .ok (.invokevirtual 357, 3) := by decide +kernel
theorem dX12_readStatement_53 : decode cX12_readStatement 53 = .ok (.goto 134, 3) := by decide +kernel
theorem dX12_readStatement_56 : decode cX12_readStatement 56 = .ok (.aload_n 0, 1) := by decide +kernel
theorem dX12_readStatement_57 : decode cX12_readStatement 57 = .ok (.aload_n 0, 1) := by decide +kernel
theorem dX12_readStatement_58 : decode cX12_readStatement 58 = .ok (.getfield 63, 3) := by decide +kernel
theorem dX12_readStatement_61 : decode cX12_readStatement 61 = .ok (.invokevirtual 304, 3) := by decide +kernel
theorem dX12_readStatement_64 : decode cX12_readStatement 64 = .ok (.ifCond .eq 10, 3) := by decide +kernel
theorem dX12_readStatement_67 : decode cX12_readStatement 67 = .ok (.aload_n 0, 1) := by decide +kernel
theorem dX12_readStatement_68 : decode cX12_readStatement 68 = .ok (.invokevirtual 360, 3) := by decide +kernel
theorem dX12_readStatement_71 : decode cX12_readStatement 71 = .ok (.goto 116, 3) := by decide +kernel
theorem dX12_readStatement_74 : decode cX12_readStatement 74 = .ok (.aload_n 0, 1) := by decide +kernel
theorem dX12_readStatement_75 : decode cX12_readStatement 75 = .ok (.aload_n 0, 1) := by decide +kernel
theorem dX12_readStatement_76 : decode cX12_readStatement 76 = .ok (.getfield 68, 3) := by decide +kernel
theorem dX12_readStatement_79 : decode cX12_readStatement 79 = .ok (.invokevirtual 304, 3) := by decide +kernel
theorem dX12_readStatement_82 : decode cX12_readStatement 82 = .ok (.ifCond .eq 10, 3) := by decide +kernel
theorem dX12_readStatement_85 : decode cX12_readStatement 85 = .ok (.aload_n 0, 1) := by decide +kernel
theorem dX12_readStatement_86 : decode cX12_readStatement 86 = .ok (.invokevirtual 363, 3) := by decide +kernel
theorem dX12_readStatement_89 : decode cX12_readStatement 89 = .ok (.goto 98, 3) := by decide +kernel
theorem dX12_readStatement_92 : decode cX12_readStatement 92 = .ok (.aload_n 0, 1) := by decide +kernel
theorem dX12_readStatement_93 : decode cX12_readStatement 93 = .ok (.aload_n 0, 1) := by decide +kernel
theorem dX12_readStatement_94 : decode cX12_readStatement 94 = .ok (.getfield 73, 3) := by decide +kernel
theorem dX12_readStatement_97 : decode cX12_readStatement 97 = .ok (.invokevirtual 304, 3) := by decide +kernel
theorem dX12_readStatement_100 : decode cX12_readStatement 100 = .ok (.ifCond .eq 10, 3) := by decide +kernel
theorem dX12_readStatement_103 : decode cX12_readStatement 103 = .ok (.aload_n 0, 1) := by decide +kernel
theorem dX12_readStatement_104 : decode cX12_readStatement 104 = .ok (.invokevirtual 366, 3) := by decide +kernel
theorem dX12_readStatement_107 : decode cX12_readStatement 107 = .ok (.goto 80, 3) := by decide +kernel
theorem dX12_readStatement_110 : decode cX12_readStatement 110 = .ok (.aload_n 0, 1) := by decide +kernel
theorem dX12_readStatement_111 : decode cX12_readStatement 111 = .ok (.aload_n 0, 1) := by decide +kernel
theorem dX12_readStatement_112 : decode cX12_readStatement 112 = .ok (.getfield 78, 3) := by decide +kernel
theorem dX12_readStatement_115 : decode cX12_readStatement 115 = .ok (.invokevirtual 304, 3) := by decide +kernel
theorem dX12_readStatement_118 : decode cX12_readStatement 118 = .ok (.ifCond .eq 10, 3) := by decide +kernel
theorem dX12_readStatement_121 : decode cX12_readStatement 121 = .ok (.aload_n 0, 1) := by decide +kernel
theorem dX12_readStatement_122 : decode cX12_readStatement 122 = .ok (.invokevirtual 369, 3) := by decide +kernel
theorem dX12_readStatement_125 : decode cX12_readStatement 125 = .ok (.goto 62, 3) := by decide +kernel
theorem dX12_readStatement_128 : decode cX12_readStatement 128 = .ok (.aload_n 0, 1) := by decide +kernel
theorem dX12_readStatement_129 : decode cX12_readStatement 129 = .ok (.aload_n 0, 1) := by decide +kernel
theorem dX12_readStatement_130 : decode cX12_readStatement 130 = .ok (.getfield 83, 3) := by decide +kernel
theorem dX12_readStatement_133 : decode cX12_readStatement 133 = .ok (.invokevirtual 304, 3) := by decide +kernel
theorem dX12_readStatement_136 : decode cX12_readStatement 136 = .ok (.ifCond .eq 10, 3) := by decide +kernel
theorem dX12_readStatement_139 : decode cX12_readStatement 139 = .ok (.aload_n 0, 1) := by decide +kernel
theorem dX12_readStatement_140 : decode cX12_readStatement 140 = .ok (.invokevirtual 372, 3) := by decide +kernel
theorem dX12_readStatement_143 : decode cX12_readStatement 143 = .ok (.goto 44, 3) := by decide +kernel
theorem dX12_readStatement_146 : decode cX12_readStatement 146 = .ok (.aload_n 0, 1) := by decide +kernel
theorem dX12_readStatement_147 : decode cX12_readStatement 147 = .ok (.aload_n 0, 1) := by decide +kernel
theorem dX12_readStatement_148 : decode cX12_readStatement 148 = .ok (.getfield 88, 3) := by decide +kernel
theorem dX12_readStatement_151 : decode cX12_readStatement 151 = .ok (.invokevirtual 304, 3) := by decide +kernel
theorem dX12_readStatement_154 : decode cX12_readStatement 154 = .ok (.ifCond .eq 10, 3) := by decide +kernel
theorem dX12_readStatement_157 : decode cX12_readStatement 157 = .ok (.aload_n 0, 1) := by decide +kernel
theorem dX12_readStatement_158 : decode cX12_readStatement 158 = .ok (.invokevirtual 375, 3) := by decide +kernel
theorem dX12_readStatement_161 : decode cX12_readStatement 161 = .ok (.goto 26, 3) := by decide +kernel
theorem dX12_readStatement_164 : decode cX12_readStatement 164 = .ok (.aload_n 0, 1) := by decide +kernel
theorem dX12_readStatement_165 : decode cX12_readStatement 165 = .ok (.aload_n 0, 1) := by decide +kernel
theorem dX12_readStatement_166 : decode cX12_readStatement 166 = .ok (.getfield 93, 3) := by decide +kernel
theorem dX12_readStatement_169 : decode cX12_readStatement 169 = .ok (.invokevirtual 304, 3) := by decide +kernel
theorem dX12_readStatement_172 : decode cX12_readStatement 172 = .ok (.ifCond .eq 10, 3) := by decide +kernel
theorem dX12_readStatement_175 : decode cX12_readStatement 175 = .ok (.aload_n 0, 1) := by decide +kernel
theorem dX12_readStatement_176 : decode cX12_readStatement 176 = .ok (.invokevirtual 378, 3) := by decide +kernel
theorem dX12_readStatement_179 : decode cX12_readStatement 179 = .ok (.goto 8, 3) := by decide +kernel
theorem dX12_readStatement_182 : decode cX12_readStatement 182 = .ok (.aload_n 0, 1) := by decide +kernel
theorem dX12_readStatement_183 : decode cX12_readStatement 183 = .ok (.iconst 1, 1) := by decide +kernel
theorem dX12_readStatement_184 : decode cX12_readStatement 184 = .ok (.invokevirtual 279, 3) := by decide +kernel
theorem dX12_readStatement_187 : decode cX12_readStatement 187 = .ok (.return_, 1) := by decide +kernel
theorem dX12_readText_0 : decode cX12_readText 0 = .ok (.aload_n 0, 1) := by decide +kernel
theorem dX12_readText_1 : decode cX12_readText 1 = .ok (.invokevirtual 381, 3) := by decide +kernel
theorem dX12_readText_4 : decode cX12_readText 4 = .ok (.aload_n 0, 1) := by decide +kernel
theorem dX12_readText_5 : decode cX12_readText 5 = .ok (.invokevirtual 384, 3) := by decide +kernel
theorem dX12_readText_8 : decode cX12_readText 8 = .ok (.aload_n 0, 1) := by decide +kernel
theorem dX12_readText_9 : decode cX12_readText 9 = .ok (.invokevirtual 387, 3) := by decide +kernel
theorem dX12_readText_12 : decode cX12_readText 12 = .ok (.aload_n 0, 1) := by decide +kernel
theorem dX12_readText_13 : decode cX12_readText 13 = .ok (.invokevirtual 275, 3) := by decide +kernel
theorem dX12_readText_16 : decode cX12_readText 16 = .ok (.ifCond .eq 17, 3) := by decide +kernel
theorem dX12_readText_19 : decode cX12_readText 19 = .ok (.aload_n 0, 1) := by decide +kernel
theorem dX12_readText_20 : decode cX12_readText 20 = .ok (.getfield 239, 3) := by decide +kernel
theorem dX12_readText_23 : decode cX12_readText 23 = .ok (.ifCond .eq 10, 3) := by decide +kernel
theorem dX12_readText_26 : decode cX12_readText 26 = .ok (.aload_n 0, 1) := by decide +kernel
theorem dX12_readText_27 : decode cX12_readText 27 = .ok (.invokevirtual 390, 3) := by decide +kernel
theorem dX12_readText_30 : decode cX12_readText 30 = .ok (.goto (-18), 3) := by decide +kernel
theorem dX12_readText_33 : decode cX12_readText 33 = .ok (.return_, 1) := by decide +kernel
theorem dX12_remember_0 : decode cX12_remember 0 = .ok (.aload_n 0, 1) := by decide +kernel
theorem dX12_remember_1 : decode cX12_remember 1 = .ok (.getfield 393, 3) := by decide +kernel
theorem dX12_remember_4 : decode cX12_remember 4 = .ok (.bipush 6, 2) := by decide +kernel
theorem dX12_remember_6 : decode cX12_remember 6 = .ok (.if_icmp .ne 44, 3) := by decide +kernel
theorem dX12_remember_9 : decode cX12_remember 9 = .ok (.iconst 0, 1) := by decide +kernel
theorem dX12_remember_10 : decode cX12_remember 10 = .ok (.istore_n 1, 1) := by decide +kernel
theorem dX12_remember_11 : decode cX12_remember 11 = .ok (.iload_n 1, 1) := by decide +kernel
theorem dX12_remember_12 : decode cX12_remember 12 = .ok (.sipush 1320, 3) := by decide +kernel
theorem dX12_remember_15 : decode cX12_remember 15 = .ok (.if_icmp .ge 25, 3) := by decide +kernel
theorem dX12_remember_18 : decode cX12_remember 18 = .ok (.aload_n 0, 1) := by decide +kernel
theorem dX12_remember_19 : decode cX12_remember 19 = .ok (.getfield 96, 3) := by decide +kernel
theorem dX12_remember_22 : decode cX12_remember 22 = .ok (.iload_n 1, 1) := by decide +kernel
theorem dX12_remember_23 : decode cX12_remember 23 = .ok (.aload_n 0, 1) := by decide +kernel
theorem dX12_remember_24 : decode cX12_remember 24 = .ok (.getfield 96, 3) := by decide +kernel
theorem dX12_remember_27 : decode cX12_remember 27 = .ok (.iload_n 1, 1) := by decide +kernel
theorem dX12_remember_28 : decode cX12_remember 28 = .ok (.sipush 264, 3) := by decide +kernel
theorem dX12_remember_31 : decode cX12_remember 31 = .ok (.iadd, 1) := by decide +kernel
theorem dX12_remember_32 : decode cX12_remember 32 = .ok (.iaload, 1) := by decide +kernel
theorem dX12_remember_33 : decode cX12_remember 33 = .ok (.iastore, 1) := by decide +kernel
theorem dX12_remember_34 : decode cX12_remember 34 = .ok (.iinc 1 1, 3) := by decide +kernel
theorem dX12_remember_37 : decode cX12_remember 37 = .ok (.goto (-26), 3) := by decide +kernel
theorem dX12_remember_40 : decode cX12_remember 40 = .ok (.aload_n 0, 1) := by decide +kernel
theorem dX12_remember_41 : decode cX12_remember 41 = .ok (.dup, 1) := by decide +kernel
theorem dX12_remember_42 : decode cX12_remember 42 = .ok (.getfield 393, 3) := by decide +kernel
theorem dX12_remember_45 : decode cX12_remember 45 = .ok (.iconst 1, 1) := by decide +kernel
theorem dX12_remember_46 : decode cX12_remember 46 = .ok (.isub, 1) := by decide +kernel
theorem dX12_remember_47 : decode cX12_remember 47 = .ok (.putfield 393, 3) := by decide +kernel
theorem dX12_remember_50 : decode cX12_remember 50 = .ok (.iconst 0, 1) := by decide +kernel
theorem dX12_remember_51 : decode cX12_remember 51 = .ok (.istore_n 1, 1) := by decide +kernel
theorem dX12_remember_52 : decode cX12_remember 52 = .ok (.iload_n 1, 1) := by decide +kernel
theorem dX12_remember_53 : decode cX12_remember 53 = .ok (.sipush 264, 3) := by decide +kernel
theorem dX12_remember_56 : decode cX12_remember 56 = .ok (.if_icmp .ge 30, 3) := by decide +kernel
theorem dX12_remember_59 : decode cX12_remember 59 = .ok (.aload_n 0, 1) := by decide +kernel
theorem dX12_remember_60 : decode cX12_remember 60 = .ok (.getfield 96, 3) := by decide +kernel
theorem dX12_remember_63 : decode cX12_remember 63 = .ok (.sipush 264, 3) := by decide +kernel
theorem dX12_remember_66 : decode cX12_remember 66 = .ok (.aload_n 0, 1) := by decide +kernel
theorem dX12_remember_67 : decode cX12_remember 67 = .ok (.getfield 393, 3) := by decide +kernel
theorem dX12_remember_70 : decode cX12_remember 70 = .ok (.imul, 1) := by decide +kernel
theorem dX12_remember_71 : decode cX12_remember 71 = .ok (.iload_n 1, 1) := by decide +kernel
theorem dX12_remember_72 : decode cX12_remember 72 = .ok (.iadd, 1) := by decide +kernel
theorem dX12_remember_73 : decode cX12_remember 73 = .ok (.aload_n 0, 1) := by decide +kernel
theorem dX12_remember_74 : decode cX12_remember 74 = .ok (.getfield 17, 3) := by decide +kernel
theorem dX12_remember_77 : decode cX12_remember 77 = .ok (.iload_n 1, 1) := by decide +kernel
theorem dX12_remember_78 : decode cX12_remember 78 = .ok (.iaload, 1) := by decide +kernel
theorem dX12_remember_79 : decode cX12_remember 79 = .ok (.iastore, 1) := by decide +kernel
theorem dX12_remember_80 : decode cX12_remember 80 = .ok (.iinc 1 1, 3) := by decide +kernel
theorem dX12_remember_83 : decode cX12_remember 83 = .ok (.goto (-31), 3) := by decide +kernel
theorem dX12_remember_86 : decode cX12_remember 86 = .ok (.aload_n 0, 1) := by decide +kernel
theorem dX12_remember_87 : decode cX12_remember 87 = .ok (.dup, 1) := by decide +kernel
theorem dX12_remember_88 : decode cX12_remember 88 = .ok (.getfield 393, 3) := by decide +kernel
theorem dX12_remember_91 : decode cX12_remember 91 = .ok (.iconst 1, 1) := by decide +kernel
theorem dX12_remember_92 : decode cX12_remember 92 = .ok (.iadd, 1) := by decide +kernel
theorem dX12_remember_93 : decode cX12_remember 93 = .ok (.putfield 393, 3) := by decide +kernel
theorem dX12_remember_96 : decode cX12_remember 96 = .ok (.return_, 1) := by decide +kernel
theorem dX12_append_0 : decode cX12_append 0 = .ok (.aload_n 0, 1) := by decide +kernel
theorem dX12_append_1 : decode cX12_append 1 = .ok (.aload_n 0, 1) := by decide +kernel
theorem dX12_append_2 : decode cX12_append 2 = .ok (.getfield 218, 3) := by decide +kernel
theorem dX12_append_5 : decode cX12_append 5 = .ok (.bipush 20, 2) := by decide +kernel
theorem dX12_append_7 : decode cX12_append 7 = .ok (.iadd, 1) := by decide +kernel
theorem dX12_append_8 : decode cX12_append 8 = .ok (.sipush 600, 3) := by decide +kernel
theorem dX12_append_11 : decode cX12_append 11 = .ok (.if_icmp .gt 7, 3) := by decide +kernel
theorem dX12_append_14 : decode cX12_append 14 = .ok (.iconst 1, 1) := by decide +kernel
theorem dX12_append_15 : decode cX12_append 15 = .ok (.goto 4, 3) := by decide +kernel
theorem dX12_append_18 : decode cX12_append 18 = .ok (.iconst 0, 1) := by decide +kernel
theorem dX12_append_19 : decode cX12_append 19 = .ok (.invokevirtual 396, 3) := by decide +kernel
theorem dX12_append_22 : decode cX12_append 22 = .ok (.ifCond .ne 5, 3) := by decide +kernel
theorem dX12_append_25 : decode cX12_append 25 = .ok (.iconst 0, 1) := by decide +kernel
theorem dX12_append_26 : decode cX12_append 26 = .ok (.ireturn, 1) := by decide +kernel
theorem dX12_append_27 : decode cX12_append 27 = .ok (.aload_n 0, 1) := by decide +kernel
theorem dX12_append_28 : decode cX12_append 28 = .ok (.iload_n 1, 1) := by decide +kernel
theorem dX12_append_29 : decode cX12_append 29 = .ok (.invokevirtual 400, 3) := by decide +kernel
theorem dX12_append_32 : decode cX12_append 32 = .ok (.aload_n 0, 1) := by decide +kernel
theorem dX12_append_33 : decode cX12_append 33 = .ok (.iload_n 2, 1) := by decide +kernel
theorem dX12_append_34 : decode cX12_append 34 = .ok (.invokevirtual 400, 3) := by decide +kernel
theorem dX12_append_37 : decode cX12_append 37 = .ok (.aload_n 0, 1) := by decide +kernel
theorem dX12_append_38 : decode cX12_append 38 = .ok (.iload_n 3, 1) := by decide +kernel
theorem dX12_append_39 : decode cX12_append 39 = .ok (.invokevirtual 400, 3) := by decide +kernel
theorem dX12_append_42 : decode cX12_append 42 = .ok (.aload_n 0, 1) := by decide +kernel
theorem dX12_append_43 : decode cX12_append 43 = .ok (.iload 4, 2) := by decide +kernel
theorem dX12_append_45 : decode cX12_append 45 = .ok (.invokevirtual 400, 3) := by decide +kernel
theorem dX12_append_48 : decode cX12_append 48 = .ok (.aload_n 0, 1) := by decide +kernel
theorem dX12_append_49 : decode cX12_append 49 = .ok (.iload 5, 2) := by decide +kernel
theorem dX12_append_51 : decode cX12_append 51 = .ok (.invokevirtual 400, 3) := by decide +kernel
theorem dX12_append_54 : decode cX12_append 54 = .ok (.aload_n 0, 1) := by decide +kernel
theorem dX12_append_55 : decode cX12_append 55 = .ok (.getfield 218, 3) := by decide +kernel
theorem dX12_append_58 : decode cX12_append 58 = .ok (.ireturn, 1) := by decide +kernel
theorem dX12_store_0 : decode cX12_store 0 = .ok (.bipush 24, 2) := by decide +kernel
theorem dX12_store_2 : decode cX12_store 2 = .ok (.istore_n 2, 1) := by decide +kernel
theorem dX12_store_3 : decode cX12_store 3 = .ok (.iload_n 2, 1) := by decide +kernel
theorem dX12_store_4 : decode cX12_store 4 = .ok (.ifCond .lt 32, 3) := by decide +kernel
theorem dX12_store_7 : decode cX12_store 7 = .ok (.aload_n 0, 1) := by decide +kernel
theorem dX12_store_8 : decode cX12_store 8 = .ok (.getfield 27, 3) := by decide +kernel
theorem dX12_store_11 : decode cX12_store 11 = .ok (.aload_n 0, 1) := by decide +kernel
theorem dX12_store_12 : decode cX12_store 12 = .ok (.getfield 218, 3) := by decide +kernel
theorem dX12_store_15 : decode cX12_store 15 = .ok (.iload_n 1, 1) := by decide +kernel
theorem dX12_store_16 : decode cX12_store 16 = .ok (.iload_n 2, 1) := by decide +kernel
theorem dX12_store_17 : decode cX12_store 17 = .ok (.ishr, 1) := by decide +kernel
theorem dX12_store_18 : decode cX12_store 18 = .ok (.i2b, 1) := by decide +kernel
theorem dX12_store_19 : decode cX12_store 19 = .ok (.bastore, 1) := by decide +kernel
theorem dX12_store_20 : decode cX12_store 20 = .ok (.aload_n 0, 1) := by decide +kernel
theorem dX12_store_21 : decode cX12_store 21 = .ok (.dup, 1) := by decide +kernel
theorem dX12_store_22 : decode cX12_store 22 = .ok (.getfield 218, 3) := by decide +kernel
theorem dX12_store_25 : decode cX12_store 25 = .ok (.iconst 1, 1) := by decide +kernel
theorem dX12_store_26 : decode cX12_store 26 = .ok (.iadd, 1) := by decide +kernel
theorem dX12_store_27 : decode cX12_store 27 = .ok (.putfield 218, 3) := by decide +kernel
theorem dX12_store_30 : decode cX12_store 30 = .ok (.iinc 2 (-8), 3) := by decide +kernel
theorem dX12_store_33 : decode cX12_store 33 = .ok (.goto (-30), 3) := by decide +kernel
theorem dX12_store_36 : decode cX12_store 36 = .ok (.return_, 1) := by decide +kernel
theorem dX12_truncate_0 : decode cX12_truncate 0 = .ok (.aload_n 0, 1) := by decide +kernel
theorem dX12_truncate_1 : decode cX12_truncate 1 = .ok (.iload_n 1, 1) := by decide +kernel
theorem dX12_truncate_2 : decode cX12_truncate 2 = .ok (.i2l, 1) := by decide +kernel
theorem dX12_truncate_3 : decode cX12_truncate 3 = .ok (.lconst 0, 1) := by decide +kernel
theorem dX12_truncate_4 : decode cX12_truncate 4 = .ok (.aload_n 0, 1) := by decide +kernel
theorem dX12_truncate_5 : decode cX12_truncate 5 = .ok (.getfield 218, 3) := by decide +kernel
theorem dX12_truncate_8 : decode cX12_truncate 8 = .ok (.i2l, 1) := by decide +kernel
theorem dX12_truncate_9 : decode cX12_truncate 9 = .ok (.invokestatic 282, 3) := by decide +kernel
theorem dX12_truncate_12 : decode cX12_truncate 12 = .ok (.invokevirtual 396, 3) := by decide +kernel
theorem dX12_truncate_15 : decode cX12_truncate 15 = .ok (.ifCond .ne 5, 3) := by decide +kernel
theorem dX12_truncate_18 : decode cX12_truncate 18 = .ok (.iconst 0, 1) := by decide +kernel
theorem dX12_truncate_19 : decode cX12_truncate 19 = .ok (.ireturn, 1) := by decide +kernel
theorem dX12_truncate_20 : decode cX12_truncate 20 = .ok (.aload_n 0, 1) := by decide +kernel
theorem dX12_truncate_21 : decode cX12_truncate 21 = .ok (.iload_n 1, 1) := by decide +kernel
theorem dX12_truncate_22 : decode cX12_truncate 22 = .ok (.putfield 218, 3) := by decide +kernel
theorem dX12_truncate_25 : decode cX12_truncate 25 = .ok (.iload_n 1, 1) := by decide +kernel
theorem dX12_truncate_26 : decode cX12_truncate 26 = .ok (.ireturn, 1) := by decide +kernel
theorem dX12_load_0 : decode cX12_load 0 = .ok (.aload_n 0, 1) := by decide +kernel
theorem dX12_load_1 : decode cX12_load 1 = .ok (.iconst 0, 1) := by decide +kernel
theorem dX12_load_2 : decode cX12_load 2 = .ok (.putfield 3, 3) := by decide +kernel
theorem dX12_load_5 : decode cX12_load 5 = .ok (.aload_n 0, 1) := by decide +kernel
theorem dX12_load_6 : decode cX12_load 6 = .ok (.aload_n 0, 1) := by decide +kernel
theorem dX12_load_7 : decode cX12_load 7 = .ok (.getfield 21, 3) := by decide +kernel
theorem dX12_load_10 : decode cX12_load 10 = .ok (.putfield 24, 3) := by decide +kernel
theorem dX12_load_13 : decode cX12_load 13 = .ok (.aload_n 0, 1) := by decide +kernel
theorem dX12_load_14 : decode cX12_load 14 = .ok (.invokevirtual 403, 3) := by decide +kernel
theorem dX12_load_17 : decode cX12_load 17 = .ok (.aload_n 0, 1) := by decide +kernel
theorem dX12_load_18 : decode cX12_load 18 = .ok (.aload_n 0, 1) := by decide +kernel
theorem dX12_load_19 : decode cX12_load 19 = .ok (.getfield 17, 3) := by decide +kernel
theorem dX12_load_22 : decode cX12_load 22 = .ok (.putfield 24, 3) := by decide +kernel
theorem dX12_load_25 : decode cX12_load 25 = .ok (.aload_n 0, 1) := by decide +kernel
theorem dX12_load_26 : decode cX12_load 26 = .ok (.iconst 0, 1) := by decide +kernel
theorem dX12_load_27 : decode cX12_load 27 = .ok (.putfield 218, 3) := by decide +kernel
theorem dX12_load_30 : decode cX12_load 30 = .ok (.aload_n 0, 1) := by decide +kernel
theorem dX12_load_31 : decode cX12_load 31 = .ok (.aload_n 0, 1) := by decide +kernel
theorem dX12_load_32 : decode cX12_load 32 = .ok (.getfield 256, 3) := by decide +kernel
theorem dX12_load_35 : decode cX12_load 35 = .ok (.putfield 406, 3) := by decide +kernel
theorem dX12_load_38 : decode cX12_load 38 = .ok (.aload_n 0, 1) := by decide +kernel
theorem dX12_load_39 : decode cX12_load 39 = .ok (.aload_n 0, 1) := by decide +kernel
theorem dX12_load_40 : decode cX12_load 40 = .ok (.invokevirtual 275, 3) := by decide +kernel
theorem dX12_load_43 : decode cX12_load 43 = .ok (.ifCond .eq 7, 3) := by decide +kernel
theorem dX12_load_46 : decode cX12_load 46 = .ok (.iconst (-1), 1) := by decide +kernel
theorem dX12_load_47 : decode cX12_load 47 = .ok (.goto 7, 3) := by decide +kernel
theorem dX12_load_50 : decode cX12_load 50 = .ok (.aload_n 0, 1) := by decide +kernel
theorem dX12_load_51 : decode cX12_load 51 = .ok (.getfield 262, 3) := by decide +kernel
theorem dX12_load_54 : decode cX12_load 54 = .ok (.putfield 102, 3) := by decide +kernel
theorem dX12_load_57 : decode cX12_load 57 = .ok (.aload_n 0, 1) := by decide +kernel
theorem dX12_load_58 : decode cX12_load 58 = .ok (.invokevirtual 275, 3) := by decide +kernel
theorem dX12_load_61 : decode cX12_load 61 = .ok (.ifCond .ne 6, 3) := by decide +kernel
theorem dX12_load_64 : decode cX12_load 64 = .ok (.bipush (-7), 2) := by decide +kernel
theorem dX12_load_66 : decode cX12_load 66 = .ok (.ireturn, 1) := by decide +kernel
theorem dX12_load_67 : decode cX12_load 67 = .ok (.aload_n 0, 1) := by decide +kernel
theorem dX12_load_68 : decode cX12_load 68 = .ok (.invokevirtual 409, 3) := by decide +kernel
theorem dX12_load_71 : decode cX12_load 71 = .ok (.iconst 0, 1) := by decide +kernel
theorem dX12_load_72 : decode cX12_load 72 = .ok (.istore_n 1, 1) := by decide +kernel
theorem dX12_load_73 : decode cX12_load 73 = .ok (.iload_n 1, 1) := by decide +kernel
theorem dX12_load_74 : decode cX12_load 74 = .ok (.sipush 264, 3) := by decide +kernel
theorem dX12_load_77 : decode cX12_load 77 = .ok (.if_icmp .ge 21, 3) := by decide +kernel
theorem dX12_load_80 : decode cX12_load 80 = .ok (.aload_n 0, 1) := by decide +kernel
theorem dX12_load_81 : decode cX12_load 81 = .ok (.getfield 17, 3) := by decide +kernel
theorem dX12_load_84 : decode cX12_load 84 = .ok (.iload_n 1, 1) := by decide +kernel
theorem dX12_load_85 : decode cX12_load 85 = .ok (.aload_n 0, 1) := by decide +kernel
theorem dX12_load_86 : decode cX12_load 86 = .ok (.getfield 21, 3) := by decide +kernel
theorem dX12_load_89 : decode cX12_load 89 = .ok (.iload_n 1, 1) := by decide +kernel
theorem dX12_load_90 : decode cX12_load 90 = .ok (.iaload, 1) := by decide +kernel
theorem dX12_load_91 : decode cX12_load 91 = .ok (.iastore, 1) := by decide +kernel
theorem dX12_load_92 : decode cX12_load 92 = .ok (.iinc 1 1, 3) := by decide +kernel
theorem dX12_load_95 : decode cX12_load 95 = .ok (.goto (-22), 3) := by decide +kernel
theorem dX12_load_98 : decode cX12_load 98 = .ok (.aload_n 0, 1) := by decide +kernel
theorem dX12_load_99 : decode cX12_load 99 = .ok (.getfield 17, 3) := by decide +kernel
theorem dX12_load_102 : decode cX12_load 102 = .ok (.bipush 7, 2) := by decide +kernel
theorem dX12_load_104 : decode cX12_load 104 = .ok (.iaload, 1) := by decide +kernel
theorem dX12_load_105 : decode cX12_load 105 = .ok (.ireturn, 1) := by decide +kernel
theorem dX12_errorCode_0 : decode cX12_errorCode 0 = .ok (.aload_n 0, 1) := by decide +kernel
theorem dX12_errorCode_1 : decode cX12_errorCode 1 = .ok (.iconst 0, 1) := by decide +kernel
theorem dX12_errorCode_2 : decode cX12_errorCode 2 = .ok (.putfield 3, 3) := by decide +kernel
theorem dX12_errorCode_5 : decode cX12_errorCode 5 = .ok (.aload_n 0, 1) := by decide +kernel
theorem dX12_errorCode_6 : decode cX12_errorCode 6 = .ok (.getfield 406, 3) := by decide +kernel
theorem dX12_errorCode_9 : decode cX12_errorCode 9 = .ok (.ireturn, 1) := by decide +kernel
theorem dX12_errorOffset_0 : decode cX12_errorOffset 0 = .ok (.aload_n 0, 1) := by decide +kernel
theorem dX12_errorOffset_1 : decode cX12_errorOffset 1 = .ok (.iconst 0, 1) := by decide +kernel
theorem dX12_errorOffset_2 : decode cX12_errorOffset 2 = .ok (.putfield 3, 3) := by decide +kernel
theorem dX12_errorOffset_5 : decode cX12_errorOffset 5 = .ok (.aload_n 0, 1) := by decide +kernel
theorem dX12_errorOffset_6 : decode cX12_errorOffset 6 = .ok (.getfield 102, 3) := by decide +kernel
theorem dX12_errorOffset_9 : decode cX12_errorOffset 9 = .ok (.ireturn, 1) := by decide +kernel
theorem dX12_hasPair_0 : decode cX12_hasPair 0 = .ok (.iload_n 1, 1) := by decide +kernel
theorem dX12_hasPair_1 : decode cX12_hasPair 1 = .ok (.i2l, 1) := by decide +kernel
theorem dX12_hasPair_2 : decode cX12_hasPair 2 = .ok (.lconst 0, 1) := by decide +kernel
theorem dX12_hasPair_3 : decode cX12_hasPair 3 = .ok (.aload_n 0, 1) := by decide +kernel
theorem dX12_hasPair_4 : decode cX12_hasPair 4 = .ok (.getfield 17, 3) := by decide +kernel
theorem dX12_hasPair_7 : decode cX12_hasPair 7 = .ok (.iconst 4, 1) := by decide +kernel
theorem dX12_hasPair_8 : decode cX12_hasPair 8 = .ok (.iaload, 1) := by decide +kernel
theorem dX12_hasPair_9 : decode cX12_hasPair 9 = .ok (.iconst 1, 1) := by decide +kernel
theorem dX12_hasPair_10 : decode cX12_hasPair 10 = .ok (.isub, 1) := by decide +kernel
theorem dX12_hasPair_11 : decode cX12_hasPair 11 = .ok (.i2l, 1) := by decide +kernel
theorem dX12_hasPair_12 : decode cX12_hasPair 12 = .ok (.invokestatic 282, 3) := by decide +kernel
theorem dX12_hasPair_15 : decode cX12_hasPair 15 = .ok (.ifCond .eq 25, 3) := by decide +kernel
theorem dX12_hasPair_18 : decode cX12_hasPair 18 = .ok (.iload_n 2, 1) := by decide +kernel
theorem dX12_hasPair_19 : decode cX12_hasPair 19 = .ok (.i2l, 1) := by decide +kernel
theorem dX12_hasPair_20 : decode cX12_hasPair 20 = .ok (.lconst 0, 1) := by decide +kernel
theorem dX12_hasPair_21 : decode cX12_hasPair 21 = .ok (.aload_n 0, 1) := by decide +kernel
theorem dX12_hasPair_22 : decode cX12_hasPair 22 = .ok (.getfield 17, 3) := by decide +kernel
theorem dX12_hasPair_25 : decode cX12_hasPair 25 = .ok (.iconst 3, 1) := by decide +kernel
theorem dX12_hasPair_26 : decode cX12_hasPair 26 = .ok (.iaload, 1) := by decide +kernel
theorem dX12_hasPair_27 : decode cX12_hasPair 27 = .ok (.iconst 1, 1) := by decide +kernel
theorem dX12_hasPair_28 : decode cX12_hasPair 28 = .ok (.isub, 1) := by decide +kernel
theorem dX12_hasPair_29 : decode cX12_hasPair 29 = .ok (.i2l, 1) := by decide +kernel
theorem dX12_hasPair_30 : decode cX12_hasPair 30 = .ok (.invokestatic 282, 3) := by decide +kernel
theorem dX12_hasPair_33 : decode cX12_hasPair 33 = .ok (.ifCond .eq 7, 3) := by decide +kernel
theorem dX12_hasPair_36 : decode cX12_hasPair 36 = .ok (.iconst 1, 1) := by decide +kernel
theorem dX12_hasPair_37 : decode cX12_hasPair 37 = .ok (.goto 4, 3) := by decide +kernel
theorem dX12_hasPair_40 : decode cX12_hasPair 40 = .ok (.iconst 0, 1) := by decide +kernel
theorem dX12_hasPair_41 : decode cX12_hasPair 41 = .ok (.ireturn, 1) := by decide +kernel
theorem dX12_hasVariety_0 : decode cX12_hasVariety 0 = .ok (.iload_n 1, 1) := by decide +kernel
theorem dX12_hasVariety_1 : decode cX12_hasVariety 1 = .ok (.i2l, 1) := by decide +kernel
theorem dX12_hasVariety_2 : decode cX12_hasVariety 2 = .ok (.lconst 0, 1) := by decide +kernel
theorem dX12_hasVariety_3 : decode cX12_hasVariety 3 = .ok (.aload_n 0, 1) := by decide +kernel
theorem dX12_hasVariety_4 : decode cX12_hasVariety 4 = .ok (.getfield 17, 3) := by decide +kernel
theorem dX12_hasVariety_7 : decode cX12_hasVariety 7 = .ok (.iconst 4, 1) := by decide +kernel
theorem dX12_hasVariety_8 : decode cX12_hasVariety 8 = .ok (.iaload, 1) := by decide +kernel
theorem dX12_hasVariety_9 : decode cX12_hasVariety 9 = .ok (.iconst 1, 1) := by decide +kernel
theorem dX12_hasVariety_10 : decode cX12_hasVariety 10 = .ok (.isub, 1) := by decide +kernel
theorem dX12_hasVariety_11 : decode cX12_hasVariety 11 = .ok (.i2l, 1) := by decide +kernel
theorem dX12_hasVariety_12 : decode cX12_hasVariety 12 = .ok (.invokestatic 282, 3) := by decide +kernel
theorem dX12_hasVariety_15 : decode cX12_hasVariety 15 = .ok (.ireturn, 1) := by decide +kernel
theorem dX12_hasGrower_0 : decode cX12_hasGrower 0 = .ok (.iload_n 1, 1) := by decide +kernel
theorem dX12_hasGrower_1 : decode cX12_hasGrower 1 = .ok (.i2l, 1) := by decide +kernel
theorem dX12_hasGrower_2 : decode cX12_hasGrower 2 = .ok (.lconst 0, 1) := by decide +kernel
theorem dX12_hasGrower_3 : decode cX12_hasGrower 3 = .ok (.aload_n 0, 1) := by decide +kernel
theorem dX12_hasGrower_4 : decode cX12_hasGrower 4 = .ok (.getfield 17, 3) := by decide +kernel
theorem dX12_hasGrower_7 : decode cX12_hasGrower 7 = .ok (.iconst 5, 1) := by decide +kernel
theorem dX12_hasGrower_8 : decode cX12_hasGrower 8 = .ok (.iaload, 1) := by decide +kernel
theorem dX12_hasGrower_9 : decode cX12_hasGrower 9 = .ok (.iconst 1, 1) := by decide +kernel
theorem dX12_hasGrower_10 : decode cX12_hasGrower 10 = .ok (.isub, 1) := by decide +kernel
theorem dX12_hasGrower_11 : decode cX12_hasGrower 11 = .ok (.i2l, 1) := by decide +kernel
theorem dX12_hasGrower_12 : decode cX12_hasGrower 12 = .ok (.invokestatic 282, 3) := by decide +kernel
theorem dX12_hasGrower_15 : decode cX12_hasGrower 15 = .ok (.ireturn, 1) := by decide +kernel
theorem dX12_hasPlot_0 : decode cX12_hasPlot 0 = .ok (.iload_n 1, 1) := by decide +kernel
theorem dX12_hasPlot_1 : decode cX12_hasPlot 1 = .ok (.i2l, 1) := by decide +kernel
theorem dX12_hasPlot_2 : decode cX12_hasPlot 2 = .ok (.lconst 0, 1) := by decide +kernel
theorem dX12_hasPlot_3 : decode cX12_hasPlot 3 = .ok (.aload_n 0, 1) := by decide +kernel
theorem dX12_hasPlot_4 : decode cX12_hasPlot 4 = .ok (.getfield 17, 3) := by decide +kernel
theorem dX12_hasPlot_7 : decode cX12_hasPlot 7 = .ok (.bipush 6, 2) := by decide +kernel
theorem dX12_hasPlot_9 : decode cX12_hasPlot 9 = .ok (.iaload, 1) := by decide +kernel
theorem dX12_hasPlot_10 : decode cX12_hasPlot 10 = .ok (.iconst 1, 1) := by decide +kernel
theorem dX12_hasPlot_11 : decode cX12_hasPlot 11 = .ok (.isub, 1) := by decide +kernel
theorem dX12_hasPlot_12 : decode cX12_hasPlot 12 = .ok (.i2l, 1) := by decide +kernel
theorem dX12_hasPlot_13 : decode cX12_hasPlot 13 = .ok (.invokestatic 282, 3) := by decide +kernel
theorem dX12_hasPlot_16 : decode cX12_hasPlot 16 = .ok (.ireturn, 1) := by decide +kernel
theorem dX12_hasLoad_0 : decode cX12_hasLoad 0 = .ok (.iload_n 1, 1) := by decide +kernel
theorem dX12_hasLoad_1 : decode cX12_hasLoad 1 = .ok (.i2l, 1) := by decide +kernel
theorem dX12_hasLoad_2 : decode cX12_hasLoad 2 = .ok (.lconst 0, 1) := by decide +kernel
theorem dX12_hasLoad_3 : decode cX12_hasLoad 3 = .ok (.aload_n 0, 1) := by decide +kernel
theorem dX12_hasLoad_4 : decode cX12_hasLoad 4 = .ok (.getfield 17, 3) := by decide +kernel
theorem dX12_hasLoad_7 : decode cX12_hasLoad 7 = .ok (.bipush 7, 2) := by decide +kernel
theorem dX12_hasLoad_9 : decode cX12_hasLoad 9 = .ok (.iaload, 1) := by decide +kernel
theorem dX12_hasLoad_10 : decode cX12_hasLoad 10 = .ok (.iconst 1, 1) := by decide +kernel
theorem dX12_hasLoad_11 : decode cX12_hasLoad 11 = .ok (.isub, 1) := by decide +kernel
theorem dX12_hasLoad_12 : decode cX12_hasLoad 12 = .ok (.i2l, 1) := by decide +kernel
theorem dX12_hasLoad_13 : decode cX12_hasLoad 13 = .ok (.invokestatic 282, 3) := by decide +kernel
theorem dX12_hasLoad_16 : decode cX12_hasLoad 16 = .ok (.ireturn, 1) := by decide +kernel
theorem dX12_hasTank_0 : decode cX12_hasTank 0 = .ok (.iload_n 1, 1) := by decide +kernel
theorem dX12_hasTank_1 : decode cX12_hasTank 1 = .ok (.i2l, 1) := by decide +kernel
theorem dX12_hasTank_2 : decode cX12_hasTank 2 = .ok (.lconst 0, 1) := by decide +kernel
theorem dX12_hasTank_3 : decode cX12_hasTank 3 = .ok (.aload_n 0, 1) := by decide +kernel
theorem dX12_hasTank_4 : decode cX12_hasTank 4 = .ok (.getfield 17, 3) := by decide +kernel
theorem dX12_hasTank_7 : decode cX12_hasTank 7 = .ok (.bipush 8, 2) := by decide +kernel
theorem dX12_hasTank_9 : decode cX12_hasTank 9 = .ok (.iaload, 1) := by decide +kernel
theorem dX12_hasTank_10 : decode cX12_hasTank 10 = .ok (.iconst 1, 1) := by decide +kernel
theorem dX12_hasTank_11 : decode cX12_hasTank 11 = .ok (.isub, 1) := by decide +kernel
theorem dX12_hasTank_12 : decode cX12_hasTank 12 = .ok (.i2l, 1) := by decide +kernel
theorem dX12_hasTank_13 : decode cX12_hasTank 13 = .ok (.invokestatic 282, 3) := by decide +kernel
theorem dX12_hasTank_16 : decode cX12_hasTank 16 = .ok (.ireturn, 1) := by decide +kernel
theorem dX12_hasLot_0 : decode cX12_hasLot 0 = .ok (.iload_n 1, 1) := by decide +kernel
theorem dX12_hasLot_1 : decode cX12_hasLot 1 = .ok (.i2l, 1) := by decide +kernel
theorem dX12_hasLot_2 : decode cX12_hasLot 2 = .ok (.lconst 0, 1) := by decide +kernel
theorem dX12_hasLot_3 : decode cX12_hasLot 3 = .ok (.aload_n 0, 1) := by decide +kernel
theorem dX12_hasLot_4 : decode cX12_hasLot 4 = .ok (.getfield 17, 3) := by decide +kernel
theorem dX12_hasLot_7 : decode cX12_hasLot 7 = .ok (.bipush 9, 2) := by decide +kernel
theorem dX12_hasLot_9 : decode cX12_hasLot 9 = .ok (.iaload, 1) := by decide +kernel
theorem dX12_hasLot_10 : decode cX12_hasLot 10 = .ok (.iconst 1, 1) := by decide +kernel
theorem dX12_hasLot_11 : decode cX12_hasLot 11 = .ok (.isub, 1) := by decide +kernel
theorem dX12_hasLot_12 : decode cX12_hasLot 12 = .ok (.i2l, 1) := by decide +kernel
theorem dX12_hasLot_13 : decode cX12_hasLot 13 = .ok (.invokestatic 282, 3) := by decide +kernel
theorem dX12_hasLot_16 : decode cX12_hasLot 16 = .ok (.ireturn, 1) := by decide +kernel
theorem dX12_tell_0 : decode cX12_tell 0 = .ok (.aload_n 0, 1) := by decide +kernel
theorem dX12_tell_1 : decode cX12_tell 1 = .ok (.iconst 0, 1) := by decide +kernel
theorem dX12_tell_2 : decode cX12_tell 2 = .ok (.putfield 3, 3) := by decide +kernel
theorem dX12_tell_5 : decode cX12_tell 5 = .ok (.aload_n 0, 1) := by decide +kernel
theorem dX12_tell_6 : decode cX12_tell 6 = .ok (.getfield 17, 3) := by decide +kernel
theorem dX12_tell_9 : decode cX12_tell 9 = .ok (.iload_n 1, 1) := by decide +kernel
theorem dX12_tell_10 : decode cX12_tell 10 = .ok (.iaload, 1) := by decide +kernel
theorem dX12_tell_11 : decode cX12_tell 11 = .ok (.ireturn, 1) := by decide +kernel
theorem dX12_varietyCount_0 : decode cX12_varietyCount 0 = .ok (.aload_n 0, 1) := by decide +kernel
theorem dX12_varietyCount_1 : decode cX12_varietyCount 1 = .ok (.iconst 4, 1) := by decide +kernel
theorem dX12_varietyCount_2 : decode cX12_varietyCount 2 = .ok (.invokevirtual 412, 3) := by decide +kernel
theorem dX12_varietyCount_5 : decode cX12_varietyCount 5 = .ok (.ireturn, 1) := by decide +kernel
theorem dX12_classCount_0 : decode cX12_classCount 0 = .ok (.aload_n 0, 1) := by decide +kernel
theorem dX12_classCount_1 : decode cX12_classCount 1 = .ok (.iconst 3, 1) := by decide +kernel
theorem dX12_classCount_2 : decode cX12_classCount 2 = .ok (.invokevirtual 412, 3) := by decide +kernel
theorem dX12_classCount_5 : decode cX12_classCount 5 = .ok (.ireturn, 1) := by decide +kernel
theorem dX12_growerCount_0 : decode cX12_growerCount 0 = .ok (.aload_n 0, 1) := by decide +kernel
theorem dX12_growerCount_1 : decode cX12_growerCount 1 = .ok (.iconst 5, 1) := by decide +kernel
theorem dX12_growerCount_2 : decode cX12_growerCount 2 = .ok (.invokevirtual 412, 3) := by decide +kernel
theorem dX12_growerCount_5 : decode cX12_growerCount 5 = .ok (.ireturn, 1) := by decide +kernel
theorem dX12_plotCount_0 : decode cX12_plotCount 0 = .ok (.aload_n 0, 1) := by decide +kernel
theorem dX12_plotCount_1 : decode cX12_plotCount 1 = .ok (.bipush 6, 2) := by decide +kernel
theorem dX12_plotCount_3 : decode cX12_plotCount 3 = .ok (.invokevirtual 412, 3) := by decide +kernel
theorem dX12_plotCount_6 : decode cX12_plotCount 6 = .ok (.ireturn, 1) := by decide +kernel
theorem dX12_loadCount_0 : decode cX12_loadCount 0 = .ok (.aload_n 0, 1) := by decide +kernel
theorem dX12_loadCount_1 : decode cX12_loadCount 1 = .ok (.bipush 7, 2) := by decide +kernel
theorem dX12_loadCount_3 : decode cX12_loadCount 3 = .ok (.invokevirtual 412, 3) := by decide +kernel
theorem dX12_loadCount_6 : decode cX12_loadCount 6 = .ok (.ireturn, 1) := by decide +kernel
theorem dX12_lotCount_0 : decode cX12_lotCount 0 = .ok (.aload_n 0, 1) := by decide +kernel
theorem dX12_lotCount_1 : decode cX12_lotCount 1 = .ok (.bipush 9, 2) := by decide +kernel
theorem dX12_lotCount_3 : decode cX12_lotCount 3 = .ok (.invokevirtual 412, 3) := by decide +kernel
theorem dX12_lotCount_6 : decode cX12_lotCount 6 = .ok (.ireturn, 1) := by decide +kernel
theorem dX12_classBySugar_0 : decode cX12_classBySugar 0 = .ok (.aload_n 0, 1) := by decide +kernel
theorem dX12_classBySugar_1 : decode cX12_classBySugar 1 = .ok (.iload_n 1, 1) := by decide +kernel
theorem dX12_classBySugar_2 : decode cX12_classBySugar 2 = .ok (.i2l, 1) := by decide +kernel
theorem dX12_classBySugar_3 : decode cX12_classBySugar 3 = .ok (.lconst 0, 1) := by decide +kernel
theorem dX12_classBySugar_4 : decode cX12_classBySugar 4 = .ok (.ldc2_w 415, 3) := by decide +kernel
theorem dX12_classBySugar_7 : decode cX12_classBySugar 7 = .ok (.invokestatic 282, 3) := by decide +kernel
theorem dX12_classBySugar_10 : decode cX12_classBySugar 10 = .ok (.invokevirtual 396, 3) := by decide +kernel
theorem dX12_classBySugar_13 : decode cX12_classBySugar 13 = .ok (.ifCond .eq 11, 3) := by decide +kernel
theorem dX12_classBySugar_16 : decode cX12_classBySugar 16 = .ok (.aload_n 0, 1) := by decide +kernel
theorem dX12_classBySugar_17 : decode cX12_classBySugar 17 = .ok (.iload_n 1, 1) := by decide +kernel
theorem dX12_classBySugar_18 : decode cX12_classBySugar 18 = .ok (.invokevirtual 161, 3) := by decide +kernel
theorem dX12_classBySugar_21 : decode cX12_classBySugar 21 = .ok (.goto 4, 3) := by decide +kernel
theorem dX12_classBySugar_24 : decode cX12_classBySugar 24 = .ok (.iconst 0, 1) := by decide +kernel
theorem dX12_classBySugar_25 : decode cX12_classBySugar 25 = .ok (.ireturn, 1) := by decide +kernel
theorem dX12_price_0 : decode cX12_price 0 = .ok (.aload_n 0, 1) := by decide +kernel
theorem dX12_price_1 : decode cX12_price 1 = .ok (.aload_n 0, 1) := by decide +kernel
theorem dX12_price_2 : decode cX12_price 2 = .ok (.iload_n 1, 1) := by decide +kernel
theorem dX12_price_3 : decode cX12_price 3 = .ok (.iload_n 2, 1) := by decide +kernel
theorem dX12_price_4 : decode cX12_price 4 = .ok (.invokevirtual 417, 3) := by decide +kernel
theorem dX12_price_7 : decode cX12_price 7 = .ok (.invokevirtual 396, 3) := by decide +kernel
theorem dX12_price_10 : decode cX12_price 10 = .ok (.ifCond .eq 12, 3) := by decide +kernel
theorem dX12_price_13 : decode cX12_price 13 = .ok (.aload_n 0, 1) := by decide +kernel
theorem dX12_price_14 : decode cX12_price 14 = .ok (.iload_n 1, 1) := by decide +kernel
theorem dX12_price_15 : decode cX12_price 15 = .ok (.iload_n 2, 1) := by decide +kernel
theorem dX12_price_16 : decode cX12_price 16 = .ok (.invokevirtual 186, 3) := by decide +kernel
theorem dX12_price_19 : decode cX12_price 19 = .ok (.goto 4, 3) := by decide +kernel
theorem dX12_price_22 : decode cX12_price 22 = .ok (.iconst 0, 1) := by decide +kernel
theorem dX12_price_23 : decode cX12_price 23 = .ok (.ireturn, 1) := by decide +kernel
theorem dX12_weightBy_0 : decode cX12_weightBy 0 = .ok (.iconst 0, 1) := by decide +kernel
theorem dX12_weightBy_1 : decode cX12_weightBy 1 = .ok (.istore_n 3, 1) := by decide +kernel
theorem dX12_weightBy_2 : decode cX12_weightBy 2 = .ok (.iconst 0, 1) := by decide +kernel
theorem dX12_weightBy_3 : decode cX12_weightBy 3 = .ok (.istore 4, 2) := by decide +kernel
theorem dX12_weightBy_5 : decode cX12_weightBy 5 = .ok (.iload 4, 2) := by decide +kernel
theorem dX12_weightBy_7 : decode cX12_weightBy 7 = .ok (.aload_n 0, 1) := by decide +kernel
theorem dX12_weightBy_8 : decode cX12_weightBy 8 = .ok (.getfield 17, 3) := by decide +kernel
theorem dX12_weightBy_11 : decode cX12_weightBy 11 = .ok (.bipush 7, 2) := by decide +kernel
theorem dX12_weightBy_13 : decode cX12_weightBy 13 = .ok (.iaload, 1) := by decide +kernel
theorem dX12_weightBy_14 : decode cX12_weightBy 14 = .ok (.if_icmp .ge 44, 3) := by decide +kernel
theorem dX12_weightBy_17 : decode cX12_weightBy 17 = .ok (.iload_n 3, 1) := by decide +kernel
theorem dX12_weightBy_18 : decode cX12_weightBy 18 = .ok (.aload_n 0, 1) := by decide +kernel
theorem dX12_weightBy_19 : decode cX12_weightBy 19 = .ok (.iload 4, 2) := by decide +kernel
theorem dX12_weightBy_21 : decode cX12_weightBy 21 = .ok (.invokevirtual 183, 3) := by decide +kernel
theorem dX12_weightBy_24 : decode cX12_weightBy 24 = .ok (.iload_n 1, 1) := by decide +kernel
theorem dX12_weightBy_25 : decode cX12_weightBy 25 = .ok (.if_icmp .ne 24, 3) := by decide +kernel
theorem dX12_weightBy_28 : decode cX12_weightBy 28 = .ok (.aload_n 0, 1) := by decide +kernel
theorem dX12_weightBy_29 : decode cX12_weightBy 29 = .ok (.iload 4, 2) := by decide +kernel
theorem dX12_weightBy_31 : decode cX12_weightBy 31 = .ok (.iconst 3, 1) := by decide +kernel
theorem dX12_weightBy_32 : decode cX12_weightBy 32 = .ok (.invokevirtual 148, 3) := by decide +kernel
theorem dX12_weightBy_35 : decode cX12_weightBy 35 = .ok (.iload_n 2, 1) := by decide +kernel
theorem dX12_weightBy_36 : decode cX12_weightBy 36 = .ok (.if_icmp .ne 13, 3) := by decide +kernel
theorem dX12_weightBy_39 : decode cX12_weightBy 39 = .ok (.aload_n 0, 1) := by decide +kernel
theorem dX12_weightBy_40 : decode cX12_weightBy 40 = .ok (.iload 4, 2) := by decide +kernel
theorem dX12_weightBy_42 : decode cX12_weightBy 42 = .ok (.iconst 1, 1) := by decide +kernel
theorem dX12_weightBy_43 : decode cX12_weightBy 43 = .ok (.invokevirtual 148, 3) := by decide +kernel
theorem dX12_weightBy_46 : decode cX12_weightBy 46 = .ok (.goto 4, 3) := by decide +kernel
theorem dX12_weightBy_49 : decode cX12_weightBy 49 = .ok (.iconst 0, 1) := by decide +kernel
theorem dX12_weightBy_50 : decode cX12_weightBy 50 = .ok (.iadd, 1) := by decide +kernel
theorem dX12_weightBy_51 : decode cX12_weightBy 51 = .ok (.istore_n 3, 1) := by decide +kernel
theorem dX12_weightBy_52 : decode cX12_weightBy 52 = .ok (.iinc 4 1, 3) := by decide +kernel
theorem dX12_weightBy_55 : decode cX12_weightBy 55 = .ok (.goto (-50), 3) := by decide +kernel
theorem dX12_weightBy_58 : decode cX12_weightBy 58 = .ok (.iload_n 3, 1) := by decide +kernel
theorem dX12_weightBy_59 : decode cX12_weightBy 59 = .ok (.ireturn, 1) := by decide +kernel
theorem dX12_weightOfClass_0 : decode cX12_weightOfClass 0 = .ok (.aload_n 0, 1) := by decide +kernel
theorem dX12_weightOfClass_1 : decode cX12_weightOfClass 1 = .ok (.aload_n 0, 1) := by decide +kernel
theorem dX12_weightOfClass_2 : decode cX12_weightOfClass 2 = .ok (.iload_n 1, 1) := by decide +kernel
theorem dX12_weightOfClass_3 : decode cX12_weightOfClass 3 = .ok (.iload_n 2, 1) := by decide +kernel
theorem dX12_weightOfClass_4 : decode cX12_weightOfClass 4 = .ok (.invokevirtual 417, 3) := by decide +kernel
theorem dX12_weightOfClass_7 : decode cX12_weightOfClass 7 = .ok (.invokevirtual 396, 3) := by decide +kernel
theorem dX12_weightOfClass_10 : decode cX12_weightOfClass 10 = .ok (.ifCond .eq 12, 3) := by decide +kernel
theorem dX12_weightOfClass_13 : decode cX12_weightOfClass 13 = .ok (.aload_n 0, 1) := by decide +kernel
theorem dX12_weightOfClass_14 : decode cX12_weightOfClass 14 = .ok (.iload_n 1, 1) := by decide +kernel
theorem dX12_weightOfClass_15 : decode cX12_weightOfClass 15 = .ok (.iload_n 2, 1) := by decide +kernel
theorem dX12_weightOfClass_16 : decode cX12_weightOfClass 16 = .ok (.invokevirtual 420, 3) := by decide +kernel
theorem dX12_weightOfClass_19 : decode cX12_weightOfClass 19 = .ok (.goto 4, 3) := by decide +kernel
theorem dX12_weightOfClass_22 : decode cX12_weightOfClass 22 = .ok (.iconst 0, 1) := by decide +kernel
theorem dX12_weightOfClass_23 : decode cX12_weightOfClass 23 = .ok (.ireturn, 1) := by decide +kernel
theorem dX12_pairOf_0 : decode cX12_pairOf 0 = .ok (.bipush 10, 2) := by decide +kernel
theorem dX12_pairOf_2 : decode cX12_pairOf 2 = .ok (.aload_n 0, 1) := by decide +kernel
theorem dX12_pairOf_3 : decode cX12_pairOf 3 = .ok (.iload_n 1, 1) := by decide +kernel
theorem dX12_pairOf_4 : decode cX12_pairOf 4 = .ok (.invokevirtual 183, 3) := by decide +kernel
theorem dX12_pairOf_7 : decode cX12_pairOf 7 = .ok (.imul, 1) := by decide +kernel
theorem dX12_pairOf_8 : decode cX12_pairOf 8 = .ok (.aload_n 0, 1) := by decide +kernel
theorem dX12_pairOf_9 : decode cX12_pairOf 9 = .ok (.iload_n 1, 1) := by decide +kernel
theorem dX12_pairOf_10 : decode cX12_pairOf 10 = .ok (.iconst 3, 1) := by decide +kernel
theorem dX12_pairOf_11 : decode cX12_pairOf 11 = .ok (.invokevirtual 148, 3) := by decide +kernel
theorem dX12_pairOf_14 : decode cX12_pairOf 14 = .ok (.iadd, 1) := by decide +kernel
theorem dX12_pairOf_15 : decode cX12_pairOf 15 = .ok (.ireturn, 1) := by decide +kernel
theorem dX12_isFirst_0 : decode cX12_isFirst 0 = .ok (.iconst 1, 1) := by decide +kernel
theorem dX12_isFirst_1 : decode cX12_isFirst 1 = .ok (.istore_n 2, 1) := by decide +kernel
theorem dX12_isFirst_2 : decode cX12_isFirst 2 = .ok (.iconst 0, 1) := by decide +kernel
theorem dX12_isFirst_3 : decode cX12_isFirst 3 = .ok (.istore_n 3, 1) := by decide +kernel
theorem dX12_isFirst_4 : decode cX12_isFirst 4 = .ok (.iload_n 3, 1) := by decide +kernel
theorem dX12_isFirst_5 : decode cX12_isFirst 5 = .ok (.iload_n 1, 1) := by decide +kernel
theorem dX12_isFirst_6 : decode cX12_isFirst 6 = .ok (.if_icmp .ge 32, 3) := by decide +kernel
theorem dX12_isFirst_9 : decode cX12_isFirst 9 = .ok (.iload_n 2, 1) := by decide +kernel
theorem dX12_isFirst_10 : decode cX12_isFirst 10 = .ok (.ifCond .eq 20, 3) := by decide +kernel
theorem dX12_isFirst_13 : decode cX12_isFirst 13 = .ok (.aload_n 0, 1) := by decide +kernel
theorem dX12_isFirst_14 : decode cX12_isFirst 14 = .ok (.iload_n 3, 1) := by decide +kernel
theorem dX12_isFirst_15 : decode cX12_isFirst 15 = .ok (.invokevirtual 423, 3) := by decide +kernel
theorem dX12_isFirst_18 : decode cX12_isFirst 18 = .ok (.aload_n 0, 1) := by decide +kernel
theorem dX12_isFirst_19 : decode cX12_isFirst 19 = .ok (.iload_n 1, 1) := by decide +kernel
theorem dX12_isFirst_20 : decode cX12_isFirst 20 = .ok (.invokevirtual 423, 3) := by decide +kernel
theorem dX12_isFirst_23 : decode cX12_isFirst 23 = .ok (.if_icmp .eq 7, 3) := by decide +kernel
theorem dX12_isFirst_26 : decode cX12_isFirst 26 = .ok (.iconst 1, 1) := by decide +kernel
theorem dX12_isFirst_27 : decode cX12_isFirst 27 = .ok (.goto 4, 3) := by decide +kernel
theorem dX12_isFirst_30 : decode cX12_isFirst 30 = .ok (.iconst 0, 1) := by decide +kernel
theorem dX12_isFirst_31 : decode cX12_isFirst 31 = .ok (.istore_n 2, 1) := by decide +kernel
theorem dX12_isFirst_32 : decode cX12_isFirst 32 = .ok (.iinc 3 1, 3) := by decide +kernel
theorem dX12_isFirst_35 : decode cX12_isFirst 35 = .ok (.goto (-31), 3) := by decide +kernel
theorem dX12_isFirst_38 : decode cX12_isFirst 38 = .ok (.iload_n 2, 1) := by decide +kernel
theorem dX12_isFirst_39 : decode cX12_isFirst 39 = .ok (.ireturn, 1) := by decide +kernel
theorem dX12_firstsUntil_0 : decode cX12_firstsUntil 0 = .ok (.iconst 0, 1) := by decide +kernel
theorem dX12_firstsUntil_1 : decode cX12_firstsUntil 1 = .ok (.istore_n 2, 1) := by decide +kernel
theorem dX12_firstsUntil_2 : decode cX12_firstsUntil 2 = .ok (.iconst 0, 1) := by decide +kernel
theorem dX12_firstsUntil_3 : decode cX12_firstsUntil 3 = .ok (.istore_n 3, 1) := by decide +kernel
theorem dX12_firstsUntil_4 : decode cX12_firstsUntil 4 = .ok (.iload_n 3, 1) := by decide +kernel
theorem dX12_firstsUntil_5 : decode cX12_firstsUntil 5 = .ok (.iload_n 1, 1) := by decide +kernel
theorem dX12_firstsUntil_6 : decode cX12_firstsUntil 6 = .ok (.if_icmp .ge 25, 3) := by decide +kernel
theorem dX12_firstsUntil_9 : decode cX12_firstsUntil 9 = .ok (.iload_n 2, 1) := by decide +kernel
theorem dX12_firstsUntil_10 : decode cX12_firstsUntil 10 = .ok (.aload_n 0, 1) := by decide +kernel
theorem dX12_firstsUntil_11 : decode cX12_firstsUntil 11 = .ok (.iload_n 3, 1) := by decide +kernel
theorem dX12_firstsUntil_12 : decode cX12_firstsUntil 12 = .ok (.invokevirtual 426, 3) := by decide +kernel
theorem dX12_firstsUntil_15 : decode cX12_firstsUntil 15 = .ok (.ifCond .eq 7, 3) := by decide +kernel
theorem dX12_firstsUntil_18 : decode cX12_firstsUntil 18 = .ok (.iconst 1, 1) := by decide +kernel
theorem dX12_firstsUntil_19 : decode cX12_firstsUntil 19 = .ok (.goto 4, 3) := by decide +kernel
theorem dX12_firstsUntil_22 : decode cX12_firstsUntil 22 = .ok (.iconst 0, 1) := by decide +kernel
theorem dX12_firstsUntil_23 : decode cX12_firstsUntil 23 = .ok (.iadd, 1) := by decide +kernel
theorem dX12_firstsUntil_24 : decode cX12_firstsUntil 24 = .ok (.istore_n 2, 1) := by decide +kernel
theorem dX12_firstsUntil_25 : decode cX12_firstsUntil 25 = .ok (.iinc 3 1, 3) := by decide +kernel
theorem dX12_firstsUntil_28 : decode cX12_firstsUntil 28 = .ok (.goto (-24), 3) := by decide +kernel
theorem dX12_firstsUntil_31 : decode cX12_firstsUntil 31 = .ok (.iload_n 2, 1) := by decide +kernel
theorem dX12_firstsUntil_32 : decode cX12_firstsUntil 32 = .ok (.ireturn, 1) := by decide +kernel
theorem dX12_deliveredClasses_0 : decode cX12_deliveredClasses 0 = .ok (.aload_n 0, 1) := by decide +kernel
theorem dX12_deliveredClasses_1 : decode cX12_deliveredClasses 1 = .ok (.iconst 0, 1) := by decide +kernel
theorem dX12_deliveredClasses_2 : decode cX12_deliveredClasses 2 = .ok (.putfield 3, 3) := by decide +kernel
theorem dX12_deliveredClasses_5 : decode cX12_deliveredClasses 5 = .ok (.aload_n 0, 1) := by decide +kernel
theorem dX12_deliveredClasses_6 : decode cX12_deliveredClasses 6 = .ok (.aload_n 0, 1) := by decide +kernel
theorem dX12_deliveredClasses_7 : decode cX12_deliveredClasses 7 = .ok (.getfield 17, 3) := by decide +kernel
theorem dX12_deliveredClasses_10 : decode cX12_deliveredClasses 10 = .ok (.bipush 7, 2) := by decide +kernel
theorem dX12_deliveredClasses_12 : decode cX12_deliveredClasses 12 = .ok (.iaload, 1) := by decide +kernel
theorem dX12_deliveredClasses_13 : decode cX12_deliveredClasses 13 = .ok (.invokevirtual 429, 3) := by decide +kernel
theorem dX12_deliveredClasses_16 : decode cX12_deliveredClasses 16 = .ok (.ireturn, 1) := by decide +kernel
theorem dX12_classInOrder_0 : decode cX12_classInOrder 0 = .ok (.aload_n 0, 1) := by decide +kernel
theorem dX12_classInOrder_1 : decode cX12_classInOrder 1 = .ok (.iload_n 1, 1) := by decide +kernel
theorem dX12_classInOrder_2 : decode cX12_classInOrder 2 = .ok (.i2l, 1) := by decide +kernel
theorem dX12_classInOrder_3 : decode cX12_classInOrder 3 = .ok (.lconst 0, 1) := by decide +kernel
theorem dX12_classInOrder_4 : decode cX12_classInOrder 4 = .ok (.aload_n 0, 1) := by decide +kernel
theorem dX12_classInOrder_5 : decode cX12_classInOrder 5 = .ok (.aload_n 0, 1) := by decide +kernel
theorem dX12_classInOrder_6 : decode cX12_classInOrder 6 = .ok (.getfield 17, 3) := by decide +kernel
theorem dX12_classInOrder_9 : decode cX12_classInOrder 9 = .ok (.bipush 7, 2) := by decide +kernel
theorem dX12_classInOrder_11 : decode cX12_classInOrder 11 = .ok (.iaload, 1) := by decide +kernel
theorem dX12_classInOrder_12 : decode cX12_classInOrder 12 = .ok (.invokevirtual 429, 3) := by decide +kernel
theorem dX12_classInOrder_15 : decode cX12_classInOrder 15 = .ok (.iconst 1, 1) := by decide +kernel
theorem dX12_classInOrder_16 : decode cX12_classInOrder 16 = .ok (.isub, 1) := by decide +kernel
theorem dX12_classInOrder_17 : decode cX12_classInOrder 17 = .ok (.i2l, 1) := by decide +kernel
theorem dX12_classInOrder_18 : decode cX12_classInOrder 18 = .ok (.invokestatic 282, 3) := by decide +kernel
theorem dX12_classInOrder_21 : decode cX12_classInOrder 21 = .ok (.invokevirtual 396, 3) := by decide +kernel
theorem dX12_classInOrder_24 : decode cX12_classInOrder 24 = .ok (.ifCond .ne 5, 3) := by decide +kernel
theorem dX12_classInOrder_27 : decode cX12_classInOrder 27 = .ok (.iconst 0, 1) := by decide +kernel
theorem dX12_classInOrder_28 : decode cX12_classInOrder 28 = .ok (.ireturn, 1) := by decide +kernel
theorem dX12_classInOrder_29 : decode cX12_classInOrder 29 = .ok (.iconst 0, 1) := by decide +kernel
theorem dX12_classInOrder_30 : decode cX12_classInOrder 30 = .ok (.istore_n 2, 1) := by decide +kernel
theorem dX12_classInOrder_31 : decode cX12_classInOrder 31 = .ok (.aload_n 0, 1) := by decide +kernel
theorem dX12_classInOrder_32 : decode cX12_classInOrder 32 = .ok (.iload_n 2, 1) := by decide +kernel
theorem dX12_classInOrder_33 : decode cX12_classInOrder 33 = .ok (.invokevirtual 426, 3) := by decide +kernel
theorem dX12_classInOrder_36 : decode cX12_classInOrder 36 = .ok (.ifCond .eq 12, 3) := by decide +kernel
theorem dX12_classInOrder_39 : decode cX12_classInOrder 39 = .ok (.aload_n 0, 1) := by decide +kernel
theorem dX12_classInOrder_40 : decode cX12_classInOrder 40 = .ok (.iload_n 2, 1) := by decide +kernel
theorem dX12_classInOrder_41 : decode cX12_classInOrder 41 = .ok (.invokevirtual 429, 3) := by decide +kernel
theorem dX12_classInOrder_44 : decode cX12_classInOrder 44 = .ok (.iload_n 1, 1) := by decide +kernel
theorem dX12_classInOrder_45 : decode cX12_classInOrder 45 = .ok (.if_icmp .eq 9, 3) := by decide +kernel
theorem dX12_classInOrder_48 : decode cX12_classInOrder 48 = .ok (.iinc 2 1, 3) := by decide +kernel
theorem dX12_classInOrder_51 : decode cX12_classInOrder 51 = .ok (.goto (-20), 3) := by decide +kernel
theorem dX12_classInOrder_54 : decode cX12_classInOrder 54 = .ok (.aload_n 0, 1) := by decide +kernel
theorem dX12_classInOrder_55 : decode cX12_classInOrder 55 = .ok (.iload_n 2, 1) := by decide +kernel
theorem dX12_classInOrder_56 : decode cX12_classInOrder 56 = .ok (.invokevirtual 423, 3) := by decide +kernel
theorem dX12_classInOrder_59 : decode cX12_classInOrder 59 = .ok (.ireturn, 1) := by decide +kernel
theorem dX12_greatestClass_0 : decode cX12_greatestClass 0 = .ok (.aload_n 0, 1) := by decide +kernel
theorem dX12_greatestClass_1 : decode cX12_greatestClass 1 = .ok (.iconst 0, 1) := by decide +kernel
theorem dX12_greatestClass_2 : decode cX12_greatestClass 2 = .ok (.putfield 3, 3) := by decide +kernel
theorem dX12_greatestClass_5 : decode cX12_greatestClass 5 = .ok (.iconst (-1), 1) := by decide +kernel
theorem dX12_greatestClass_6 : decode cX12_greatestClass 6 = .ok (.istore_n 1, 1) := by decide +kernel
theorem dX12_greatestClass_7 : decode cX12_greatestClass 7 = .ok (.iconst 0, 1) := by decide +kernel
theorem dX12_greatestClass_8 : decode cX12_greatestClass 8 = .ok (.istore_n 2, 1) := by decide +kernel
theorem dX12_greatestClass_9 : decode cX12_greatestClass 9 = .ok (.iconst 0, 1) := by decide +kernel
theorem dX12_greatestClass_10 : decode cX12_greatestClass 10 = .ok (.istore_n 3, 1) := by decide +kernel
theorem dX12_greatestClass_11 : decode cX12_greatestClass 11 = .ok (.iload_n 3, 1) := by decide +kernel
theorem dX12_greatestClass_12 : decode cX12_greatestClass 12 = .ok (.aload_n 0, 1) := by decide +kernel
theorem dX12_greatestClass_13 : decode cX12_greatestClass 13 = .ok (.getfield 17, 3) := by decide +kernel
theorem dX12_greatestClass_16 : decode cX12_greatestClass 16 = .ok (.bipush 7, 2) := by decide +kernel
theorem dX12_greatestClass_18 : decode cX12_greatestClass 18 = .ok (.iaload, 1) := by decide +kernel
theorem dX12_greatestClass_19 : decode cX12_greatestClass 19 = .ok (.if_icmp .ge 49, 3) := by decide +kernel
theorem dX12_greatestClass_22 : decode cX12_greatestClass 22 = .ok (.aload_n 0, 1) := by decide +kernel
theorem dX12_greatestClass_23 : decode cX12_greatestClass 23 = .ok (.aload_n 0, 1) := by decide +kernel
theorem dX12_greatestClass_24 : decode cX12_greatestClass 24 = .ok (.iload_n 3, 1) := by decide +kernel
theorem dX12_greatestClass_25 : decode cX12_greatestClass 25 = .ok (.invokevirtual 183, 3) := by decide +kernel
theorem dX12_greatestClass_28 : decode cX12_greatestClass 28 = .ok (.aload_n 0, 1) := by decide +kernel
theorem dX12_greatestClass_29 : decode cX12_greatestClass 29 = .ok (.iload_n 3, 1) := by decide +kernel
theorem dX12_greatestClass_30 : decode cX12_greatestClass 30 = .ok (.iconst 3, 1) := by decide +kernel
theorem dX12_greatestClass_31 : decode cX12_greatestClass 31 = .ok (.invokevirtual 148, 3) := by decide +kernel
theorem dX12_greatestClass_34 : decode cX12_greatestClass 34 = .ok (.invokevirtual 420, 3) := by decide +kernel
theorem dX12_greatestClass_37 : decode cX12_greatestClass 37 = .ok (.istore 4, 2) := by decide +kernel
theorem dX12_greatestClass_39 : decode cX12_greatestClass 39 = .ok (.iload 4, 2) := by decide +kernel
theorem dX12_greatestClass_41 : decode cX12_greatestClass 41 = .ok (.iload_n 2, 1) := by decide +kernel
theorem dX12_greatestClass_42 : decode cX12_greatestClass 42 = .ok (.if_icmp .le 11, 3) := by decide +kernel
theorem dX12_greatestClass_45 : decode cX12_greatestClass 45 = .ok (.aload_n 0, 1) := by decide +kernel
theorem dX12_greatestClass_46 : decode cX12_greatestClass 46 = .ok (.iload_n 3, 1) := by decide +kernel
theorem dX12_greatestClass_47 : decode cX12_greatestClass 47 = .ok (.invokevirtual 423, 3) := by decide +kernel
theorem dX12_greatestClass_50 : decode cX12_greatestClass 50 = .ok (.goto 4, 3) := by decide +kernel
theorem dX12_greatestClass_53 : decode cX12_greatestClass 53 = .ok (.iload_n 1, 1) := by decide +kernel
theorem dX12_greatestClass_54 : decode cX12_greatestClass 54 = .ok (.istore_n 1, 1) := by decide +kernel
theorem dX12_greatestClass_55 : decode cX12_greatestClass 55 = .ok (.iload_n 2, 1) := by decide +kernel
theorem dX12_greatestClass_56 : decode cX12_greatestClass 56 = .ok (.iload 4, 2) := by decide +kernel
theorem dX12_greatestClass_58 : decode cX12_greatestClass 58 = .ok (.invokestatic 299, 3) := by decide +kernel
theorem dX12_greatestClass_61 : decode cX12_greatestClass 61 = .ok (.istore_n 2, 1) := by decide +kernel
theorem dX12_greatestClass_62 : decode cX12_greatestClass 62 = .ok (.iinc 3 1, 3) := by decide +kernel
theorem dX12_greatestClass_65 : decode cX12_greatestClass 65 = .ok (.goto (-54), 3) := by decide +kernel
theorem dX12_greatestClass_68 : decode cX12_greatestClass 68 = .ok (.iload_n 1, 1) := by decide +kernel
theorem dX12_greatestClass_69 : decode cX12_greatestClass 69 = .ok (.ireturn, 1) := by decide +kernel
theorem dX12_plotsOf_0 : decode cX12_plotsOf 0 = .ok (.aload_n 0, 1) := by decide +kernel
theorem dX12_plotsOf_1 : decode cX12_plotsOf 1 = .ok (.aload_n 0, 1) := by decide +kernel
theorem dX12_plotsOf_2 : decode cX12_plotsOf 2 = .ok (.iload_n 1, 1) := by decide +kernel
theorem dX12_plotsOf_3 : decode cX12_plotsOf 3 = .ok (.invokevirtual 432, 3) := by decide +kernel
theorem dX12_plotsOf_6 : decode cX12_plotsOf 6 = .ok (.invokevirtual 396, 3) := by decide +kernel
theorem dX12_plotsOf_9 : decode cX12_plotsOf 9 = .ok (.ifCond .ne 5, 3) := by decide +kernel
theorem dX12_plotsOf_12 : decode cX12_plotsOf 12 = .ok (.iconst 0, 1) := by decide +kernel
theorem dX12_plotsOf_13 : decode cX12_plotsOf 13 = .ok (.ireturn, 1) := by decide +kernel
theorem dX12_plotsOf_14 : decode cX12_plotsOf 14 = .ok (.iconst 0, 1) := by decide +kernel
theorem dX12_plotsOf_15 : decode cX12_plotsOf 15 = .ok (.istore_n 2, 1) := by decide +kernel
theorem dX12_plotsOf_16 : decode cX12_plotsOf 16 = .ok (.iconst 0, 1) := by decide +kernel
theorem dX12_plotsOf_17 : decode cX12_plotsOf 17 = .ok (.istore_n 3, 1) := by decide +kernel
theorem dX12_plotsOf_18 : decode cX12_plotsOf 18 = .ok (.iload_n 3, 1) := by decide +kernel
theorem dX12_plotsOf_19 : decode cX12_plotsOf 19 = .ok (.aload_n 0, 1) := by decide +kernel
theorem dX12_plotsOf_20 : decode cX12_plotsOf 20 = .ok (.getfield 17, 3) := by decide +kernel
theorem dX12_plotsOf_23 : decode cX12_plotsOf 23 = .ok (.bipush 6, 2) := by decide +kernel
theorem dX12_plotsOf_25 : decode cX12_plotsOf 25 = .ok (.iaload, 1) := by decide +kernel
theorem dX12_plotsOf_26 : decode cX12_plotsOf 26 = .ok (.if_icmp .ge 27, 3) := by decide +kernel
theorem dX12_plotsOf_29 : decode cX12_plotsOf 29 = .ok (.iload_n 2, 1) := by decide +kernel
theorem dX12_plotsOf_30 : decode cX12_plotsOf 30 = .ok (.aload_n 0, 1) := by decide +kernel
theorem dX12_plotsOf_31 : decode cX12_plotsOf 31 = .ok (.iload_n 3, 1) := by decide +kernel
theorem dX12_plotsOf_32 : decode cX12_plotsOf 32 = .ok (.iconst 0, 1) := by decide +kernel
theorem dX12_plotsOf_33 : decode cX12_plotsOf 33 = .ok (.invokevirtual 144, 3) := by decide +kernel
theorem dX12_plotsOf_36 : decode cX12_plotsOf 36 = .ok (.iload_n 1, 1) := by decide +kernel
theorem dX12_plotsOf_37 : decode cX12_plotsOf 37 = .ok (.if_icmp .ne 7, 3) := by decide +kernel
theorem dX12_plotsOf_40 : decode cX12_plotsOf 40 = .ok (.iconst 1, 1) := by decide +kernel
theorem dX12_plotsOf_41 : decode cX12_plotsOf 41 = .ok (.goto 4, 3) := by decide +kernel
theorem dX12_plotsOf_44 : decode cX12_plotsOf 44 = .ok (.iconst 0, 1) := by decide +kernel
theorem dX12_plotsOf_45 : decode cX12_plotsOf 45 = .ok (.iadd, 1) := by decide +kernel
theorem dX12_plotsOf_46 : decode cX12_plotsOf 46 = .ok (.istore_n 2, 1) := by decide +kernel
theorem dX12_plotsOf_47 : decode cX12_plotsOf 47 = .ok (.iinc 3 1, 3) := by decide +kernel
theorem dX12_plotsOf_50 : decode cX12_plotsOf 50 = .ok (.goto (-32), 3) := by decide +kernel
theorem dX12_plotsOf_53 : decode cX12_plotsOf 53 = .ok (.iload_n 2, 1) := by decide +kernel
theorem dX12_plotsOf_54 : decode cX12_plotsOf 54 = .ok (.ireturn, 1) := by decide +kernel
theorem dX12_weightFrom_0 : decode cX12_weightFrom 0 = .ok (.iconst 0, 1) := by decide +kernel
theorem dX12_weightFrom_1 : decode cX12_weightFrom 1 = .ok (.istore_n 2, 1) := by decide +kernel
theorem dX12_weightFrom_2 : decode cX12_weightFrom 2 = .ok (.iconst 0, 1) := by decide +kernel
theorem dX12_weightFrom_3 : decode cX12_weightFrom 3 = .ok (.istore_n 3, 1) := by decide +kernel
theorem dX12_weightFrom_4 : decode cX12_weightFrom 4 = .ok (.iload_n 3, 1) := by decide +kernel
theorem dX12_weightFrom_5 : decode cX12_weightFrom 5 = .ok (.aload_n 0, 1) := by decide +kernel
theorem dX12_weightFrom_6 : decode cX12_weightFrom 6 = .ok (.getfield 17, 3) := by decide +kernel
theorem dX12_weightFrom_9 : decode cX12_weightFrom 9 = .ok (.bipush 7, 2) := by decide +kernel
theorem dX12_weightFrom_11 : decode cX12_weightFrom 11 = .ok (.iaload, 1) := by decide +kernel
theorem dX12_weightFrom_12 : decode cX12_weightFrom 12 = .ok (.if_icmp .ge 31, 3) := by decide +kernel
theorem dX12_weightFrom_15 : decode cX12_weightFrom 15 = .ok (.iload_n 2, 1) := by decide +kernel
theorem dX12_weightFrom_16 : decode cX12_weightFrom 16 = .ok (.aload_n 0, 1) := by decide +kernel
theorem dX12_weightFrom_17 : decode cX12_weightFrom 17 = .ok (.iload_n 3, 1) := by decide +kernel
theorem dX12_weightFrom_18 : decode cX12_weightFrom 18 = .ok (.invokevirtual 206, 3) := by decide +kernel
theorem dX12_weightFrom_21 : decode cX12_weightFrom 21 = .ok (.iload_n 1, 1) := by decide +kernel
theorem dX12_weightFrom_22 : decode cX12_weightFrom 22 = .ok (.if_icmp .ne 12, 3) := by decide +kernel
theorem dX12_weightFrom_25 : decode cX12_weightFrom 25 = .ok (.aload_n 0, 1) := by decide +kernel
theorem dX12_weightFrom_26 : decode cX12_weightFrom 26 = .ok (.iload_n 3, 1) := by decide +kernel
theorem dX12_weightFrom_27 : decode cX12_weightFrom 27 = .ok (.iconst 1, 1) := by decide +kernel
theorem dX12_weightFrom_28 : decode cX12_weightFrom 28 = .ok (.invokevirtual 148, 3) := by decide +kernel
theorem dX12_weightFrom_31 : decode cX12_weightFrom 31 = .ok (.goto 4, 3) := by decide +kernel
theorem dX12_weightFrom_34 : decode cX12_weightFrom 34 = .ok (.iconst 0, 1) := by decide +kernel
theorem dX12_weightFrom_35 : decode cX12_weightFrom 35 = .ok (.iadd, 1) := by decide +kernel
theorem dX12_weightFrom_36 : decode cX12_weightFrom 36 = .ok (.istore_n 2, 1) := by decide +kernel
theorem dX12_weightFrom_37 : decode cX12_weightFrom 37 = .ok (.iinc 3 1, 3) := by decide +kernel
theorem dX12_weightFrom_40 : decode cX12_weightFrom 40 = .ok (.goto (-36), 3) := by decide +kernel
theorem dX12_weightFrom_43 : decode cX12_weightFrom 43 = .ok (.iload_n 2, 1) := by decide +kernel
theorem dX12_weightFrom_44 : decode cX12_weightFrom 44 = .ok (.ireturn, 1) := by decide +kernel
theorem dX12_weightOf_0 : decode cX12_weightOf 0 = .ok (.aload_n 0, 1) := by decide +kernel
theorem dX12_weightOf_1 : decode cX12_weightOf 1 = .ok (.aload_n 0, 1) := by decide +kernel
theorem dX12_weightOf_2 : decode cX12_weightOf 2 = .ok (.iload_n 1, 1) := by decide +kernel
theorem dX12_weightOf_3 : decode cX12_weightOf 3 = .ok (.invokevirtual 432, 3) := by decide +kernel
theorem dX12_weightOf_6 : decode cX12_weightOf 6 = .ok (.invokevirtual 396, 3) := by decide +kernel
theorem dX12_weightOf_9 : decode cX12_weightOf 9 = .ok (.ifCond .eq 11, 3) := by decide +kernel
theorem dX12_weightOf_12 : decode cX12_weightOf 12 = .ok (.aload_n 0, 1) := by decide +kernel
theorem dX12_weightOf_13 : decode cX12_weightOf 13 = .ok (.iload_n 1, 1) := by decide +kernel
theorem dX12_weightOf_14 : decode cX12_weightOf 14 = .ok (.invokevirtual 435, 3) := by decide +kernel
theorem dX12_weightOf_17 : decode cX12_weightOf 17 = .ok (.goto 4, 3) := by decide +kernel
theorem dX12_weightOf_20 : decode cX12_weightOf 20 = .ok (.iconst 0, 1) := by decide +kernel
theorem dX12_weightOf_21 : decode cX12_weightOf 21 = .ok (.ireturn, 1) := by decide +kernel
theorem dX12_owed_0 : decode cX12_owed 0 = .ok (.aload_n 0, 1) := by decide +kernel
theorem dX12_owed_1 : decode cX12_owed 1 = .ok (.aload_n 0, 1) := by decide +kernel
theorem dX12_owed_2 : decode cX12_owed 2 = .ok (.iload_n 1, 1) := by decide +kernel
theorem dX12_owed_3 : decode cX12_owed 3 = .ok (.invokevirtual 432, 3) := by decide +kernel
theorem dX12_owed_6 : decode cX12_owed 6 = .ok (.invokevirtual 396, 3) := by decide +kernel
theorem dX12_owed_9 : decode cX12_owed 9 = .ok (.ifCond .eq 11, 3) := by decide +kernel
theorem dX12_owed_12 : decode cX12_owed 12 = .ok (.aload_n 0, 1) := by decide +kernel
theorem dX12_owed_13 : decode cX12_owed 13 = .ok (.iload_n 1, 1) := by decide +kernel
theorem dX12_owed_14 : decode cX12_owed 14 = .ok (.invokevirtual 212, 3) := by decide +kernel
theorem dX12_owed_17 : decode cX12_owed 17 = .ok (.goto 4, 3) := by decide +kernel
theorem dX12_owed_20 : decode cX12_owed 20 = .ok (.iconst 0, 1) := by decide +kernel
theorem dX12_owed_21 : decode cX12_owed 21 = .ok (.ireturn, 1) := by decide +kernel
theorem dX12_paidTo_0 : decode cX12_paidTo 0 = .ok (.aload_n 0, 1) := by decide +kernel
theorem dX12_paidTo_1 : decode cX12_paidTo 1 = .ok (.aload_n 0, 1) := by decide +kernel
theorem dX12_paidTo_2 : decode cX12_paidTo 2 = .ok (.iload_n 1, 1) := by decide +kernel
theorem dX12_paidTo_3 : decode cX12_paidTo 3 = .ok (.invokevirtual 432, 3) := by decide +kernel
theorem dX12_paidTo_6 : decode cX12_paidTo 6 = .ok (.invokevirtual 396, 3) := by decide +kernel
theorem dX12_paidTo_9 : decode cX12_paidTo 9 = .ok (.ifCond .ne 5, 3) := by decide +kernel
theorem dX12_paidTo_12 : decode cX12_paidTo 12 = .ok (.iconst 0, 1) := by decide +kernel
theorem dX12_paidTo_13 : decode cX12_paidTo 13 = .ok (.ireturn, 1) := by decide +kernel
theorem dX12_paidTo_14 : decode cX12_paidTo 14 = .ok (.iconst 0, 1) := by decide +kernel
theorem dX12_paidTo_15 : decode cX12_paidTo 15 = .ok (.istore_n 2, 1) := by decide +kernel
theorem dX12_paidTo_16 : decode cX12_paidTo 16 = .ok (.iconst 0, 1) := by decide +kernel
theorem dX12_paidTo_17 : decode cX12_paidTo 17 = .ok (.istore_n 3, 1) := by decide +kernel
theorem dX12_paidTo_18 : decode cX12_paidTo 18 = .ok (.iload_n 3, 1) := by decide +kernel
theorem dX12_paidTo_19 : decode cX12_paidTo 19 = .ok (.aload_n 0, 1) := by decide +kernel
theorem dX12_paidTo_20 : decode cX12_paidTo 20 = .ok (.getfield 17, 3) := by decide +kernel
theorem dX12_paidTo_23 : decode cX12_paidTo 23 = .ok (.bipush 7, 2) := by decide +kernel
theorem dX12_paidTo_25 : decode cX12_paidTo 25 = .ok (.iaload, 1) := by decide +kernel
theorem dX12_paidTo_26 : decode cX12_paidTo 26 = .ok (.if_icmp .ge 39, 3) := by decide +kernel
theorem dX12_paidTo_29 : decode cX12_paidTo 29 = .ok (.iload_n 2, 1) := by decide +kernel
theorem dX12_paidTo_30 : decode cX12_paidTo 30 = .ok (.aload_n 0, 1) := by decide +kernel
theorem dX12_paidTo_31 : decode cX12_paidTo 31 = .ok (.iload_n 3, 1) := by decide +kernel
theorem dX12_paidTo_32 : decode cX12_paidTo 32 = .ok (.invokevirtual 206, 3) := by decide +kernel
theorem dX12_paidTo_35 : decode cX12_paidTo 35 = .ok (.iload_n 1, 1) := by decide +kernel
theorem dX12_paidTo_36 : decode cX12_paidTo 36 = .ok (.if_icmp .ne 20, 3) := by decide +kernel
theorem dX12_paidTo_39 : decode cX12_paidTo 39 = .ok (.aload_n 0, 1) := by decide +kernel
theorem dX12_paidTo_40 : decode cX12_paidTo 40 = .ok (.iload_n 3, 1) := by decide +kernel
theorem dX12_paidTo_41 : decode cX12_paidTo 41 = .ok (.invokevirtual 179, 3) := by decide +kernel
theorem dX12_paidTo_44 : decode cX12_paidTo 44 = .ok (.ifCond .ne 12, 3) := by decide +kernel
theorem dX12_paidTo_47 : decode cX12_paidTo 47 = .ok (.aload_n 0, 1) := by decide +kernel
theorem dX12_paidTo_48 : decode cX12_paidTo 48 = .ok (.iload_n 3, 1) := by decide +kernel
theorem dX12_paidTo_49 : decode cX12_paidTo 49 = .ok (.iconst 5, 1) := by decide +kernel
theorem dX12_paidTo_50 : decode cX12_paidTo 50 = .ok (.invokevirtual 148, 3) := by decide +kernel
theorem dX12_paidTo_53 : decode cX12_paidTo 53 = .ok (.goto 4, 3) := by decide +kernel
theorem dX12_paidTo_56 : decode cX12_paidTo 56 = .ok (.iconst 0, 1) := by decide +kernel
theorem dX12_paidTo_57 : decode cX12_paidTo 57 = .ok (.iadd, 1) := by decide +kernel
theorem dX12_paidTo_58 : decode cX12_paidTo 58 = .ok (.istore_n 2, 1) := by decide +kernel
theorem dX12_paidTo_59 : decode cX12_paidTo 59 = .ok (.iinc 3 1, 3) := by decide +kernel
theorem dX12_paidTo_62 : decode cX12_paidTo 62 = .ok (.goto (-44), 3) := by decide +kernel
theorem dX12_paidTo_65 : decode cX12_paidTo 65 = .ok (.iload_n 2, 1) := by decide +kernel
theorem dX12_paidTo_66 : decode cX12_paidTo 66 = .ok (.ireturn, 1) := by decide +kernel
theorem dX12_varietiesOf_0 : decode cX12_varietiesOf 0 = .ok (.aload_n 0, 1) := by decide +kernel
theorem dX12_varietiesOf_1 : decode cX12_varietiesOf 1 = .ok (.aload_n 0, 1) := by decide +kernel
theorem dX12_varietiesOf_2 : decode cX12_varietiesOf 2 = .ok (.iload_n 1, 1) := by decide +kernel
theorem dX12_varietiesOf_3 : decode cX12_varietiesOf 3 = .ok (.invokevirtual 432, 3) := by decide +kernel
theorem dX12_varietiesOf_6 : decode cX12_varietiesOf 6 = .ok (.invokevirtual 396, 3) := by decide +kernel
theorem dX12_varietiesOf_9 : decode cX12_varietiesOf 9 = .ok (.ifCond .ne 5, 3) := by decide +kernel
theorem dX12_varietiesOf_12 : decode cX12_varietiesOf 12 = .ok (.iconst 0, 1) := by decide +kernel
theorem dX12_varietiesOf_13 : decode cX12_varietiesOf 13 = .ok (.ireturn, 1) := by decide +kernel
theorem dX12_varietiesOf_14 : decode cX12_varietiesOf 14 = .ok (.iconst 0, 1) := by decide +kernel
theorem dX12_varietiesOf_15 : decode cX12_varietiesOf 15 = .ok (.istore_n 2, 1) := by decide +kernel
theorem dX12_varietiesOf_16 : decode cX12_varietiesOf 16 = .ok (.iconst 0, 1) := by decide +kernel
theorem dX12_varietiesOf_17 : decode cX12_varietiesOf 17 = .ok (.istore_n 3, 1) := by decide +kernel
theorem dX12_varietiesOf_18 : decode cX12_varietiesOf 18 = .ok (.iload_n 3, 1) := by decide +kernel
theorem dX12_varietiesOf_19 : decode cX12_varietiesOf 19 = .ok (.aload_n 0, 1) := by decide +kernel
theorem dX12_varietiesOf_20 : decode cX12_varietiesOf 20 = .ok (.getfield 17, 3) := by decide +kernel
theorem dX12_varietiesOf_23 : decode cX12_varietiesOf 23 = .ok (.bipush 7, 2) := by decide +kernel
theorem dX12_varietiesOf_25 : decode cX12_varietiesOf 25 = .ok (.iaload, 1) := by decide +kernel
theorem dX12_varietiesOf_26 : decode cX12_varietiesOf 26 = .ok (.if_icmp .ge 32, 3) := by decide +kernel
theorem dX12_varietiesOf_29 : decode cX12_varietiesOf 29 = .ok (.iload_n 2, 1) := by decide +kernel
theorem dX12_varietiesOf_30 : decode cX12_varietiesOf 30 = .ok (.aload_n 0, 1) := by decide +kernel
theorem dX12_varietiesOf_31 : decode cX12_varietiesOf 31 = .ok (.iload_n 3, 1) := by decide +kernel
theorem dX12_varietiesOf_32 : decode cX12_varietiesOf 32 = .ok (.invokevirtual 206, 3) := by decide +kernel
theorem dX12_varietiesOf_35 : decode cX12_varietiesOf 35 = .ok (.iload_n 1, 1) := by decide +kernel
theorem dX12_varietiesOf_36 : decode cX12_varietiesOf 36 = .ok (.if_icmp .ne 13, 3) := by decide +kernel
theorem dX12_varietiesOf_39 : decode cX12_varietiesOf 39 = .ok (.iconst 1, 1) := by decide +kernel
theorem dX12_varietiesOf_40 : decode cX12_varietiesOf 40 = .ok (.aload_n 0, 1) := by decide +kernel
theorem dX12_varietiesOf_41 : decode cX12_varietiesOf 41 = .ok (.iload_n 3, 1) := by decide +kernel
theorem dX12_varietiesOf_42 : decode cX12_varietiesOf 42 = .ok (.invokevirtual 183, 3) := by decide +kernel
theorem dX12_varietiesOf_45 : decode cX12_varietiesOf 45 = .ok (.ishl, 1) := by decide +kernel
theorem dX12_varietiesOf_46 : decode cX12_varietiesOf 46 = .ok (.goto 4, 3) := by decide +kernel
theorem dX12_varietiesOf_49 : decode cX12_varietiesOf 49 = .ok (.iconst 0, 1) := by decide +kernel
theorem dX12_varietiesOf_50 : decode cX12_varietiesOf 50 = .ok (.ior, 1) := by decide +kernel
theorem dX12_varietiesOf_51 : decode cX12_varietiesOf 51 = .ok (.istore_n 2, 1) := by decide +kernel
theorem dX12_varietiesOf_52 : decode cX12_varietiesOf 52 = .ok (.iinc 3 1, 3) := by decide +kernel
theorem dX12_varietiesOf_55 : decode cX12_varietiesOf 55 = .ok (.goto (-37), 3) := by decide +kernel
theorem dX12_varietiesOf_58 : decode cX12_varietiesOf 58 = .ok (.iconst 0, 1) := by decide +kernel
theorem dX12_varietiesOf_59 : decode cX12_varietiesOf 59 = .ok (.istore_n 3, 1) := by decide +kernel
theorem dX12_varietiesOf_60 : decode cX12_varietiesOf 60 = .ok (.iload_n 2, 1) := by decide +kernel
theorem dX12_varietiesOf_61 : decode cX12_varietiesOf 61 = .ok (.istore 4, 2) := by decide +kernel
theorem dX12_varietiesOf_63 : decode cX12_varietiesOf 63 = .ok (.iload 4, 2) := by decide +kernel
theorem dX12_varietiesOf_65 : decode cX12_varietiesOf 65 = .ok (.ifCond .eq 18, 3) := by decide +kernel
theorem dX12_varietiesOf_68 : decode cX12_varietiesOf 68 = .ok (.iinc 3 1, 3) := by decide +kernel
theorem dX12_varietiesOf_71 : decode cX12_varietiesOf 71 = .ok (.iload 4, 2) := by decide +kernel
theorem dX12_varietiesOf_73 : decode cX12_varietiesOf 73 = .ok (.iload 4, 2) := by decide +kernel
theorem dX12_varietiesOf_75 : decode cX12_varietiesOf 75 = .ok (.iconst 1, 1) := by decide +kernel
theorem dX12_varietiesOf_76 : decode cX12_varietiesOf 76 = .ok (.isub, 1) := by decide +kernel
theorem dX12_varietiesOf_77 : decode cX12_varietiesOf 77 = .ok (.iand, 1) := by decide +kernel
theorem dX12_varietiesOf_78 : decode cX12_varietiesOf 78 = .ok (.istore 4, 2) := by decide +kernel
theorem dX12_varietiesOf_80 : decode cX12_varietiesOf 80 = .ok (.goto (-17), 3) := by decide +kernel
theorem dX12_varietiesOf_83 : decode cX12_varietiesOf 83 = .ok (.iload_n 3, 1) := by decide +kernel
theorem dX12_varietiesOf_84 : decode cX12_varietiesOf 84 = .ok (.ireturn, 1) := by decide +kernel
theorem dX12_greatestGrower_0 : decode cX12_greatestGrower 0 = .ok (.aload_n 0, 1) := by decide +kernel
theorem dX12_greatestGrower_1 : decode cX12_greatestGrower 1 = .ok (.iconst 0, 1) := by decide +kernel
theorem dX12_greatestGrower_2 : decode cX12_greatestGrower 2 = .ok (.putfield 3, 3) := by decide +kernel
theorem dX12_greatestGrower_5 : decode cX12_greatestGrower 5 = .ok (.iconst (-1), 1) := by decide +kernel
theorem dX12_greatestGrower_6 : decode cX12_greatestGrower 6 = .ok (.istore_n 1, 1) := by decide +kernel
theorem dX12_greatestGrower_7 : decode cX12_greatestGrower 7 = .ok (.iconst 0, 1) := by decide +kernel
theorem dX12_greatestGrower_8 : decode cX12_greatestGrower 8 = .ok (.istore_n 2, 1) := by decide +kernel
theorem dX12_greatestGrower_9 : decode cX12_greatestGrower 9 = .ok (.iload_n 2, 1) := by decide +kernel
theorem dX12_greatestGrower_10 : decode cX12_greatestGrower 10 = .ok (.aload_n 0, 1) := by decide +kernel
theorem dX12_greatestGrower_11 : decode cX12_greatestGrower 11 = .ok (.getfield 17, 3) := by decide +kernel
theorem dX12_greatestGrower_14 : decode cX12_greatestGrower 14 = .ok (.iconst 5, 1) := by decide +kernel
theorem dX12_greatestGrower_15 : decode cX12_greatestGrower 15 = .ok (.iaload, 1) := by decide +kernel
theorem dX12_greatestGrower_16 : decode cX12_greatestGrower 16 = .ok (.if_icmp .ge 33, 3) := by decide +kernel
theorem dX12_greatestGrower_19 : decode cX12_greatestGrower 19 = .ok (.iload_n 1, 1) := by decide +kernel
theorem dX12_greatestGrower_20 : decode cX12_greatestGrower 20 = .ok (.iconst (-1), 1) := by decide +kernel
theorem dX12_greatestGrower_21 : decode cX12_greatestGrower 21 = .ok (.if_icmp .eq 16, 3) := by decide +kernel
theorem dX12_greatestGrower_24 : decode cX12_greatestGrower 24 = .ok (.aload_n 0, 1) := by decide +kernel
theorem dX12_greatestGrower_25 : decode cX12_greatestGrower 25 = .ok (.iload_n 2, 1) := by decide +kernel
theorem dX12_greatestGrower_26 : decode cX12_greatestGrower 26 = .ok (.invokevirtual 435, 3) := by decide +kernel
theorem dX12_greatestGrower_29 : decode cX12_greatestGrower 29 = .ok (.aload_n 0, 1) := by decide +kernel
theorem dX12_greatestGrower_30 : decode cX12_greatestGrower 30 = .ok (.iload_n 1, 1) := by decide +kernel
theorem dX12_greatestGrower_31 : decode cX12_greatestGrower 31 = .ok (.invokevirtual 435, 3) := by decide +kernel
theorem dX12_greatestGrower_34 : decode cX12_greatestGrower 34 = .ok (.if_icmp .le 7, 3) := by decide +kernel
theorem dX12_greatestGrower_37 : decode cX12_greatestGrower 37 = .ok (.iload_n 2, 1) := by decide +kernel
theorem dX12_greatestGrower_38 : decode cX12_greatestGrower 38 = .ok (.goto 4, 3) := by decide +kernel
theorem dX12_greatestGrower_41 : decode cX12_greatestGrower 41 = .ok (.iload_n 1, 1) := by decide +kernel
theorem dX12_greatestGrower_42 : decode cX12_greatestGrower 42 = .ok (.istore_n 1, 1) := by decide +kernel
theorem dX12_greatestGrower_43 : decode cX12_greatestGrower 43 = .ok (.iinc 2 1, 3) := by decide +kernel
theorem dX12_greatestGrower_46 : decode cX12_greatestGrower 46 = .ok (.goto (-37), 3) := by decide +kernel
theorem dX12_greatestGrower_49 : decode cX12_greatestGrower 49 = .ok (.iload_n 1, 1) := by decide +kernel
theorem dX12_greatestGrower_50 : decode cX12_greatestGrower 50 = .ok (.ireturn, 1) := by decide +kernel
theorem dX12_yieldLimit_0 : decode cX12_yieldLimit 0 = .ok (.aload_n 0, 1) := by decide +kernel
theorem dX12_yieldLimit_1 : decode cX12_yieldLimit 1 = .ok (.aload_n 0, 1) := by decide +kernel
theorem dX12_yieldLimit_2 : decode cX12_yieldLimit 2 = .ok (.iload_n 1, 1) := by decide +kernel
theorem dX12_yieldLimit_3 : decode cX12_yieldLimit 3 = .ok (.invokevirtual 438, 3) := by decide +kernel
theorem dX12_yieldLimit_6 : decode cX12_yieldLimit 6 = .ok (.invokevirtual 396, 3) := by decide +kernel
theorem dX12_yieldLimit_9 : decode cX12_yieldLimit 9 = .ok (.ifCond .eq 11, 3) := by decide +kernel
theorem dX12_yieldLimit_12 : decode cX12_yieldLimit 12 = .ok (.aload_n 0, 1) := by decide +kernel
theorem dX12_yieldLimit_13 : decode cX12_yieldLimit 13 = .ok (.iload_n 1, 1) := by decide +kernel
theorem dX12_yieldLimit_14 : decode cX12_yieldLimit 14 = .ok (.invokevirtual 170, 3) := by decide +kernel
theorem dX12_yieldLimit_17 : decode cX12_yieldLimit 17 = .ok (.goto 4, 3) := by decide +kernel
theorem dX12_yieldLimit_20 : decode cX12_yieldLimit 20 = .ok (.iconst 0, 1) := by decide +kernel
theorem dX12_yieldLimit_21 : decode cX12_yieldLimit 21 = .ok (.ireturn, 1) := by decide +kernel
theorem dX12_harvested_0 : decode cX12_harvested 0 = .ok (.aload_n 0, 1) := by decide +kernel
theorem dX12_harvested_1 : decode cX12_harvested 1 = .ok (.aload_n 0, 1) := by decide +kernel
theorem dX12_harvested_2 : decode cX12_harvested 2 = .ok (.iload_n 1, 1) := by decide +kernel
theorem dX12_harvested_3 : decode cX12_harvested 3 = .ok (.invokevirtual 438, 3) := by decide +kernel
theorem dX12_harvested_6 : decode cX12_harvested 6 = .ok (.invokevirtual 396, 3) := by decide +kernel
theorem dX12_harvested_9 : decode cX12_harvested 9 = .ok (.ifCond .eq 11, 3) := by decide +kernel
theorem dX12_harvested_12 : decode cX12_harvested 12 = .ok (.aload_n 0, 1) := by decide +kernel
theorem dX12_harvested_13 : decode cX12_harvested 13 = .ok (.iload_n 1, 1) := by decide +kernel
theorem dX12_harvested_14 : decode cX12_harvested 14 = .ok (.invokevirtual 167, 3) := by decide +kernel
theorem dX12_harvested_17 : decode cX12_harvested 17 = .ok (.goto 4, 3) := by decide +kernel
theorem dX12_harvested_20 : decode cX12_harvested 20 = .ok (.iconst 0, 1) := by decide +kernel
theorem dX12_harvested_21 : decode cX12_harvested 21 = .ok (.ireturn, 1) := by decide +kernel
theorem dX12_yieldLeft_0 : decode cX12_yieldLeft 0 = .ok (.aload_n 0, 1) := by decide +kernel
theorem dX12_yieldLeft_1 : decode cX12_yieldLeft 1 = .ok (.aload_n 0, 1) := by decide +kernel
theorem dX12_yieldLeft_2 : decode cX12_yieldLeft 2 = .ok (.iload_n 1, 1) := by decide +kernel
theorem dX12_yieldLeft_3 : decode cX12_yieldLeft 3 = .ok (.invokevirtual 438, 3) := by decide +kernel
theorem dX12_yieldLeft_6 : decode cX12_yieldLeft 6 = .ok (.invokevirtual 396, 3) := by decide +kernel
theorem dX12_yieldLeft_9 : decode cX12_yieldLeft 9 = .ok (.ifCond .eq 27, 3) := by decide +kernel
theorem dX12_yieldLeft_12 : decode cX12_yieldLeft 12 = .ok (.sipush 5000, 3) := by decide +kernel
theorem dX12_yieldLeft_15 : decode cX12_yieldLeft 15 = .ok (.iconst 0, 1) := by decide +kernel
theorem dX12_yieldLeft_16 : decode cX12_yieldLeft 16 = .ok (.aload_n 0, 1) := by decide +kernel
theorem dX12_yieldLeft_17 : decode cX12_yieldLeft 17 = .ok (.iload_n 1, 1) := by decide +kernel
theorem dX12_yieldLeft_18 : decode cX12_yieldLeft 18 = .ok (.invokevirtual 170, 3) := by decide +kernel
theorem dX12_yieldLeft_21 : decode cX12_yieldLeft 21 = .ok (.aload_n 0, 1) := by decide +kernel
theorem dX12_yieldLeft_22 : decode cX12_yieldLeft 22 = .ok (.iload_n 1, 1) := by decide +kernel
theorem dX12_yieldLeft_23 : decode cX12_yieldLeft 23 = .ok (.invokevirtual 167, 3) := by decide +kernel
theorem dX12_yieldLeft_26 : decode cX12_yieldLeft 26 = .ok (.isub, 1) := by decide +kernel
theorem dX12_yieldLeft_27 : decode cX12_yieldLeft 27 = .ok (.invokestatic 299, 3) := by decide +kernel
theorem dX12_yieldLeft_30 : decode cX12_yieldLeft 30 = .ok (.invokestatic 441, 3) := by decide +kernel
theorem dX12_yieldLeft_33 : decode cX12_yieldLeft 33 = .ok (.goto 4, 3) := by decide +kernel
theorem dX12_yieldLeft_36 : decode cX12_yieldLeft 36 = .ok (.iconst 0, 1) := by decide +kernel
theorem dX12_yieldLeft_37 : decode cX12_yieldLeft 37 = .ok (.ireturn, 1) := by decide +kernel
theorem dX12_tellLoad_0 : decode cX12_tellLoad 0 = .ok (.aload_n 0, 1) := by decide +kernel
theorem dX12_tellLoad_1 : decode cX12_tellLoad 1 = .ok (.aload_n 0, 1) := by decide +kernel
theorem dX12_tellLoad_2 : decode cX12_tellLoad 2 = .ok (.iload_n 1, 1) := by decide +kernel
theorem dX12_tellLoad_3 : decode cX12_tellLoad 3 = .ok (.invokevirtual 444, 3) := by decide +kernel
theorem dX12_tellLoad_6 : decode cX12_tellLoad 6 = .ok (.invokevirtual 396, 3) := by decide +kernel
theorem dX12_tellLoad_9 : decode cX12_tellLoad 9 = .ok (.ifCond .eq 12, 3) := by decide +kernel
theorem dX12_tellLoad_12 : decode cX12_tellLoad 12 = .ok (.aload_n 0, 1) := by decide +kernel
theorem dX12_tellLoad_13 : decode cX12_tellLoad 13 = .ok (.iload_n 1, 1) := by decide +kernel
theorem dX12_tellLoad_14 : decode cX12_tellLoad 14 = .ok (.iload_n 2, 1) := by decide +kernel
theorem dX12_tellLoad_15 : decode cX12_tellLoad 15 = .ok (.invokevirtual 148, 3) := by decide +kernel
theorem dX12_tellLoad_18 : decode cX12_tellLoad 18 = .ok (.goto 4, 3) := by decide +kernel
theorem dX12_tellLoad_21 : decode cX12_tellLoad 21 = .ok (.iconst 0, 1) := by decide +kernel
theorem dX12_tellLoad_22 : decode cX12_tellLoad 22 = .ok (.ireturn, 1) := by decide +kernel
theorem dX12_plotOfLoad_0 : decode cX12_plotOfLoad 0 = .ok (.aload_n 0, 1) := by decide +kernel
theorem dX12_plotOfLoad_1 : decode cX12_plotOfLoad 1 = .ok (.iload_n 1, 1) := by decide +kernel
theorem dX12_plotOfLoad_2 : decode cX12_plotOfLoad 2 = .ok (.iconst 0, 1) := by decide +kernel
theorem dX12_plotOfLoad_3 : decode cX12_plotOfLoad 3 = .ok (.invokevirtual 447, 3) := by decide +kernel
theorem dX12_plotOfLoad_6 : decode cX12_plotOfLoad 6 = .ok (.ireturn, 1) := by decide +kernel
theorem dX12_classOfLoad_0 : decode cX12_classOfLoad 0 = .ok (.aload_n 0, 1) := by decide +kernel
theorem dX12_classOfLoad_1 : decode cX12_classOfLoad 1 = .ok (.iload_n 1, 1) := by decide +kernel
theorem dX12_classOfLoad_2 : decode cX12_classOfLoad 2 = .ok (.iconst 3, 1) := by decide +kernel
theorem dX12_classOfLoad_3 : decode cX12_classOfLoad 3 = .ok (.invokevirtual 447, 3) := by decide +kernel
theorem dX12_classOfLoad_6 : decode cX12_classOfLoad 6 = .ok (.ireturn, 1) := by decide +kernel
theorem dX12_tankOfLoad_0 : decode cX12_tankOfLoad 0 = .ok (.aload_n 0, 1) := by decide +kernel
theorem dX12_tankOfLoad_1 : decode cX12_tankOfLoad 1 = .ok (.iload_n 1, 1) := by decide +kernel
theorem dX12_tankOfLoad_2 : decode cX12_tankOfLoad 2 = .ok (.iconst 4, 1) := by decide +kernel
theorem dX12_tankOfLoad_3 : decode cX12_tankOfLoad 3 = .ok (.invokevirtual 447, 3) := by decide +kernel
theorem dX12_tankOfLoad_6 : decode cX12_tankOfLoad 6 = .ok (.ireturn, 1) := by decide +kernel
theorem dX12_valueOf_0 : decode cX12_valueOf 0 = .ok (.aload_n 0, 1) := by decide +kernel
theorem dX12_valueOf_1 : decode cX12_valueOf 1 = .ok (.aload_n 0, 1) := by decide +kernel
theorem dX12_valueOf_2 : decode cX12_valueOf 2 = .ok (.iload_n 1, 1) := by decide +kernel
theorem dX12_valueOf_3 : decode cX12_valueOf 3 = .ok (.invokevirtual 444, 3) := by decide +kernel
theorem dX12_valueOf_6 : decode cX12_valueOf 6 = .ok (.invokevirtual 396, 3) := by decide +kernel
theorem dX12_valueOf_9 : decode cX12_valueOf 9 = .ok (.ifCond .eq 11, 3) := by decide +kernel
theorem dX12_valueOf_12 : decode cX12_valueOf 12 = .ok (.aload_n 0, 1) := by decide +kernel
theorem dX12_valueOf_13 : decode cX12_valueOf 13 = .ok (.iload_n 1, 1) := by decide +kernel
theorem dX12_valueOf_14 : decode cX12_valueOf 14 = .ok (.invokevirtual 203, 3) := by decide +kernel
theorem dX12_valueOf_17 : decode cX12_valueOf 17 = .ok (.goto 4, 3) := by decide +kernel
theorem dX12_valueOf_20 : decode cX12_valueOf 20 = .ok (.iconst 0, 1) := by decide +kernel
theorem dX12_valueOf_21 : decode cX12_valueOf 21 = .ok (.ireturn, 1) := by decide +kernel
theorem dX12_isPaid_0 : decode cX12_isPaid 0 = .ok (.aload_n 0, 1) := by decide +kernel
theorem dX12_isPaid_1 : decode cX12_isPaid 1 = .ok (.aload_n 0, 1) := by decide +kernel
theorem dX12_isPaid_2 : decode cX12_isPaid 2 = .ok (.iload_n 1, 1) := by decide +kernel
theorem dX12_isPaid_3 : decode cX12_isPaid 3 = .ok (.invokevirtual 444, 3) := by decide +kernel
theorem dX12_isPaid_6 : decode cX12_isPaid 6 = .ok (.invokevirtual 396, 3) := by decide +kernel
theorem dX12_isPaid_9 : decode cX12_isPaid 9 = .ok (.ifCond .eq 15, 3) := by decide +kernel
theorem dX12_isPaid_12 : decode cX12_isPaid 12 = .ok (.aload_n 0, 1) := by decide +kernel
theorem dX12_isPaid_13 : decode cX12_isPaid 13 = .ok (.iload_n 1, 1) := by decide +kernel
theorem dX12_isPaid_14 : decode cX12_isPaid 14 = .ok (.invokevirtual 179, 3) := by decide +kernel
theorem dX12_isPaid_17 : decode cX12_isPaid 17 = .ok (.ifCond .ne 7, 3) := by decide +kernel
theorem dX12_isPaid_20 : decode cX12_isPaid 20 = .ok (.iconst 1, 1) := by decide +kernel
theorem dX12_isPaid_21 : decode cX12_isPaid 21 = .ok (.goto 4, 3) := by decide +kernel
theorem dX12_isPaid_24 : decode cX12_isPaid 24 = .ok (.iconst 0, 1) := by decide +kernel
theorem dX12_isPaid_25 : decode cX12_isPaid 25 = .ok (.ireturn, 1) := by decide +kernel
theorem dX12_isLowered_0 : decode cX12_isLowered 0 = .ok (.aload_n 0, 1) := by decide +kernel
theorem dX12_isLowered_1 : decode cX12_isLowered 1 = .ok (.aload_n 0, 1) := by decide +kernel
theorem dX12_isLowered_2 : decode cX12_isLowered 2 = .ok (.iload_n 1, 1) := by decide +kernel
theorem dX12_isLowered_3 : decode cX12_isLowered 3 = .ok (.invokevirtual 444, 3) := by decide +kernel
theorem dX12_isLowered_6 : decode cX12_isLowered 6 = .ok (.invokevirtual 396, 3) := by decide +kernel
theorem dX12_isLowered_9 : decode cX12_isLowered 9 = .ok (.ifCond .eq 26, 3) := by decide +kernel
theorem dX12_isLowered_12 : decode cX12_isLowered 12 = .ok (.aload_n 0, 1) := by decide +kernel
theorem dX12_isLowered_13 : decode cX12_isLowered 13 = .ok (.iload_n 1, 1) := by decide +kernel
theorem dX12_isLowered_14 : decode cX12_isLowered 14 = .ok (.iconst 3, 1) := by decide +kernel
theorem dX12_isLowered_15 : decode cX12_isLowered 15 = .ok (.invokevirtual 148, 3) := by decide +kernel
theorem dX12_isLowered_18 : decode cX12_isLowered 18 = .ok (.aload_n 0, 1) := by decide +kernel
theorem dX12_isLowered_19 : decode cX12_isLowered 19 = .ok (.aload_n 0, 1) := by decide +kernel
theorem dX12_isLowered_20 : decode cX12_isLowered 20 = .ok (.iload_n 1, 1) := by decide +kernel
theorem dX12_isLowered_21 : decode cX12_isLowered 21 = .ok (.iconst 2, 1) := by decide +kernel
theorem dX12_isLowered_22 : decode cX12_isLowered 22 = .ok (.invokevirtual 148, 3) := by decide +kernel
theorem dX12_isLowered_25 : decode cX12_isLowered 25 = .ok (.invokevirtual 161, 3) := by decide +kernel
theorem dX12_isLowered_28 : decode cX12_isLowered 28 = .ok (.if_icmp .eq 7, 3) := by decide +kernel
theorem dX12_isLowered_31 : decode cX12_isLowered 31 = .ok (.iconst 1, 1) := by decide +kernel
theorem dX12_isLowered_32 : decode cX12_isLowered 32 = .ok (.goto 4, 3) := by decide +kernel
theorem dX12_isLowered_35 : decode cX12_isLowered 35 = .ok (.iconst 0, 1) := by decide +kernel
theorem dX12_isLowered_36 : decode cX12_isLowered 36 = .ok (.ireturn, 1) := by decide +kernel
theorem dX12_content_0 : decode cX12_content 0 = .ok (.aload_n 0, 1) := by decide +kernel
theorem dX12_content_1 : decode cX12_content 1 = .ok (.aload_n 0, 1) := by decide +kernel
theorem dX12_content_2 : decode cX12_content 2 = .ok (.iload_n 1, 1) := by decide +kernel
theorem dX12_content_3 : decode cX12_content 3 = .ok (.invokevirtual 450, 3) := by decide +kernel
theorem dX12_content_6 : decode cX12_content 6 = .ok (.invokevirtual 396, 3) := by decide +kernel
theorem dX12_content_9 : decode cX12_content 9 = .ok (.ifCond .eq 12, 3) := by decide +kernel
theorem dX12_content_12 : decode cX12_content 12 = .ok (.aload_n 0, 1) := by decide +kernel
theorem dX12_content_13 : decode cX12_content 13 = .ok (.iload_n 1, 1) := by decide +kernel
theorem dX12_content_14 : decode cX12_content 14 = .ok (.iconst 1, 1) := by decide +kernel
theorem dX12_content_15 : decode cX12_content 15 = .ok (.invokevirtual 151, 3) := by decide +kernel
theorem dX12_content_18 : decode cX12_content 18 = .ok (.goto 4, 3) := by decide +kernel
theorem dX12_content_21 : decode cX12_content 21 = .ok (.iconst 0, 1) := by decide +kernel
theorem dX12_content_22 : decode cX12_content 22 = .ok (.ireturn, 1) := by decide +kernel
theorem dX12_varietyIn_0 : decode cX12_varietyIn 0 = .ok (.aload_n 0, 1) := by decide +kernel
theorem dX12_varietyIn_1 : decode cX12_varietyIn 1 = .ok (.aload_n 0, 1) := by decide +kernel
theorem dX12_varietyIn_2 : decode cX12_varietyIn 2 = .ok (.iload_n 1, 1) := by decide +kernel
theorem dX12_varietyIn_3 : decode cX12_varietyIn 3 = .ok (.invokevirtual 450, 3) := by decide +kernel
theorem dX12_varietyIn_6 : decode cX12_varietyIn 6 = .ok (.invokevirtual 396, 3) := by decide +kernel
theorem dX12_varietyIn_9 : decode cX12_varietyIn 9 = .ok (.ifCond .eq 12, 3) := by decide +kernel
theorem dX12_varietyIn_12 : decode cX12_varietyIn 12 = .ok (.aload_n 0, 1) := by decide +kernel
theorem dX12_varietyIn_13 : decode cX12_varietyIn 13 = .ok (.iload_n 1, 1) := by decide +kernel
theorem dX12_varietyIn_14 : decode cX12_varietyIn 14 = .ok (.iconst 2, 1) := by decide +kernel
theorem dX12_varietyIn_15 : decode cX12_varietyIn 15 = .ok (.invokevirtual 151, 3) := by decide +kernel
theorem dX12_varietyIn_18 : decode cX12_varietyIn 18 = .ok (.goto 4, 3) := by decide +kernel
theorem dX12_varietyIn_21 : decode cX12_varietyIn 21 = .ok (.iconst 0, 1) := by decide +kernel
theorem dX12_varietyIn_22 : decode cX12_varietyIn 22 = .ok (.ireturn, 1) := by decide +kernel
theorem dX12_meanSugar_0 : decode cX12_meanSugar 0 = .ok (.aload_n 0, 1) := by decide +kernel
theorem dX12_meanSugar_1 : decode cX12_meanSugar 1 = .ok (.aload_n 0, 1) := by decide +kernel
theorem dX12_meanSugar_2 : decode cX12_meanSugar 2 = .ok (.iload_n 1, 1) := by decide +kernel
theorem dX12_meanSugar_3 : decode cX12_meanSugar 3 = .ok (.invokevirtual 450, 3) := by decide +kernel
theorem dX12_meanSugar_6 : decode cX12_meanSugar 6 = .ok (.invokevirtual 396, 3) := by decide +kernel
theorem dX12_meanSugar_9 : decode cX12_meanSugar 9 = .ok (.ifCond .eq 11, 3) := by decide +kernel
theorem dX12_meanSugar_12 : decode cX12_meanSugar 12 = .ok (.aload_n 0, 1) := by decide +kernel
theorem dX12_meanSugar_13 : decode cX12_meanSugar 13 = .ok (.iload_n 1, 1) := by decide +kernel
theorem dX12_meanSugar_14 : decode cX12_meanSugar 14 = .ok (.invokevirtual 189, 3) := by decide +kernel
theorem dX12_meanSugar_17 : decode cX12_meanSugar 17 = .ok (.goto 4, 3) := by decide +kernel
theorem dX12_meanSugar_20 : decode cX12_meanSugar 20 = .ok (.iconst 0, 1) := by decide +kernel
theorem dX12_meanSugar_21 : decode cX12_meanSugar 21 = .ok (.ireturn, 1) := by decide +kernel
theorem dX12_tankFor_0 : decode cX12_tankFor 0 = .ok (.aload_n 0, 1) := by decide +kernel
theorem dX12_tankFor_1 : decode cX12_tankFor 1 = .ok (.aload_n 0, 1) := by decide +kernel
theorem dX12_tankFor_2 : decode cX12_tankFor 2 = .ok (.iload_n 1, 1) := by decide +kernel
theorem dX12_tankFor_3 : decode cX12_tankFor 3 = .ok (.invokevirtual 453, 3) := by decide +kernel
theorem dX12_tankFor_6 : decode cX12_tankFor 6 = .ok (.iload_n 2, 1) := by decide +kernel
theorem dX12_tankFor_7 : decode cX12_tankFor 7 = .ok (.i2l, 1) := by decide +kernel
theorem dX12_tankFor_8 : decode cX12_tankFor 8 = .ok (.lconst 1, 1) := by decide +kernel
theorem dX12_tankFor_9 : decode cX12_tankFor 9 = .ok (.ldc2_w 456, 3) := by decide +kernel
theorem dX12_tankFor_12 : decode cX12_tankFor 12 = .ok (.invokestatic 282, 3) := by decide +kernel
theorem dX12_tankFor_15 : decode cX12_tankFor 15 = .ok (.invokevirtual 458, 3) := by decide +kernel
theorem dX12_tankFor_18 : decode cX12_tankFor 18 = .ok (.ifCond .eq 12, 3) := by decide +kernel
theorem dX12_tankFor_21 : decode cX12_tankFor 21 = .ok (.aload_n 0, 1) := by decide +kernel
theorem dX12_tankFor_22 : decode cX12_tankFor 22 = .ok (.iload_n 1, 1) := by decide +kernel
theorem dX12_tankFor_23 : decode cX12_tankFor 23 = .ok (.iload_n 2, 1) := by decide +kernel
theorem dX12_tankFor_24 : decode cX12_tankFor 24 = .ok (.invokevirtual 164, 3) := by decide +kernel
theorem dX12_tankFor_27 : decode cX12_tankFor 27 = .ok (.goto 4, 3) := by decide +kernel
theorem dX12_tankFor_30 : decode cX12_tankFor 30 = .ok (.iconst 0, 1) := by decide +kernel
theorem dX12_tankFor_31 : decode cX12_tankFor 31 = .ok (.ireturn, 1) := by decide +kernel
theorem dX12_greatestLoad_0 : decode cX12_greatestLoad 0 = .ok (.aload_n 0, 1) := by decide +kernel
theorem dX12_greatestLoad_1 : decode cX12_greatestLoad 1 = .ok (.aload_n 0, 1) := by decide +kernel
theorem dX12_greatestLoad_2 : decode cX12_greatestLoad 2 = .ok (.iload_n 1, 1) := by decide +kernel
theorem dX12_greatestLoad_3 : decode cX12_greatestLoad 3 = .ok (.invokevirtual 453, 3) := by decide +kernel
theorem dX12_greatestLoad_6 : decode cX12_greatestLoad 6 = .ok (.invokevirtual 396, 3) := by decide +kernel
theorem dX12_greatestLoad_9 : decode cX12_greatestLoad 9 = .ok (.ifCond .ne 5, 3) := by decide +kernel
theorem dX12_greatestLoad_12 : decode cX12_greatestLoad 12 = .ok (.iconst 0, 1) := by decide +kernel
theorem dX12_greatestLoad_13 : decode cX12_greatestLoad 13 = .ok (.ireturn, 1) := by decide +kernel
theorem dX12_greatestLoad_14 : decode cX12_greatestLoad 14 = .ok (.iconst 0, 1) := by decide +kernel
theorem dX12_greatestLoad_15 : decode cX12_greatestLoad 15 = .ok (.istore_n 2, 1) := by decide +kernel
theorem dX12_greatestLoad_16 : decode cX12_greatestLoad 16 = .ok (.iconst 0, 1) := by decide +kernel
theorem dX12_greatestLoad_17 : decode cX12_greatestLoad 17 = .ok (.istore_n 3, 1) := by decide +kernel
theorem dX12_greatestLoad_18 : decode cX12_greatestLoad 18 = .ok (.iload_n 3, 1) := by decide +kernel
theorem dX12_greatestLoad_19 : decode cX12_greatestLoad 19 = .ok (.aload_n 0, 1) := by decide +kernel
theorem dX12_greatestLoad_20 : decode cX12_greatestLoad 20 = .ok (.getfield 17, 3) := by decide +kernel
theorem dX12_greatestLoad_23 : decode cX12_greatestLoad 23 = .ok (.bipush 8, 2) := by decide +kernel
theorem dX12_greatestLoad_25 : decode cX12_greatestLoad 25 = .ok (.iaload, 1) := by decide +kernel
theorem dX12_greatestLoad_26 : decode cX12_greatestLoad 26 = .ok (.if_icmp .ge 55, 3) := by decide +kernel
theorem dX12_greatestLoad_29 : decode cX12_greatestLoad 29 = .ok (.aload_n 0, 1) := by decide +kernel
theorem dX12_greatestLoad_30 : decode cX12_greatestLoad 30 = .ok (.iload_n 3, 1) := by decide +kernel
theorem dX12_greatestLoad_31 : decode cX12_greatestLoad 31 = .ok (.iconst 2, 1) := by decide +kernel
theorem dX12_greatestLoad_32 : decode cX12_greatestLoad 32 = .ok (.invokevirtual 151, 3) := by decide +kernel
theorem dX12_greatestLoad_35 : decode cX12_greatestLoad 35 = .ok (.iload_n 1, 1) := by decide +kernel
theorem dX12_greatestLoad_36 : decode cX12_greatestLoad 36 = .ok (.if_icmp .eq 13, 3) := by decide +kernel
theorem dX12_greatestLoad_39 : decode cX12_greatestLoad 39 = .ok (.aload_n 0, 1) := by decide +kernel
theorem dX12_greatestLoad_40 : decode cX12_greatestLoad 40 = .ok (.iload_n 3, 1) := by decide +kernel
theorem dX12_greatestLoad_41 : decode cX12_greatestLoad 41 = .ok (.iconst 2, 1) := by decide +kernel
theorem dX12_greatestLoad_42 : decode cX12_greatestLoad 42 = .ok (.invokevirtual 151, 3) := by decide +kernel
theorem dX12_greatestLoad_45 : decode cX12_greatestLoad 45 = .ok (.iconst (-1), 1) := by decide +kernel
theorem dX12_greatestLoad_46 : decode cX12_greatestLoad 46 = .ok (.if_icmp .ne 7, 3) := by decide +kernel
theorem dX12_greatestLoad_49 : decode cX12_greatestLoad 49 = .ok (.iconst 1, 1) := by decide +kernel
theorem dX12_greatestLoad_50 : decode cX12_greatestLoad 50 = .ok (.goto 4, 3) := by decide +kernel
theorem dX12_greatestLoad_53 : decode cX12_greatestLoad 53 = .ok (.iconst 0, 1) := by decide +kernel
theorem dX12_greatestLoad_54 : decode cX12_greatestLoad 54 = .ok (.istore 4, 2) := by decide +kernel
theorem dX12_greatestLoad_56 : decode cX12_greatestLoad 56 = .ok (.iload 4, 2) := by decide +kernel
theorem dX12_greatestLoad_58 : decode cX12_greatestLoad 58 = .ok (.ifCond .eq 15, 3) := by decide +kernel
theorem dX12_greatestLoad_61 : decode cX12_greatestLoad 61 = .ok (.iload_n 2, 1) := by decide +kernel
theorem dX12_greatestLoad_62 : decode cX12_greatestLoad 62 = .ok (.aload_n 0, 1) := by decide +kernel
theorem dX12_greatestLoad_63 : decode cX12_greatestLoad 63 = .ok (.iload_n 3, 1) := by decide +kernel
theorem dX12_greatestLoad_64 : decode cX12_greatestLoad 64 = .ok (.invokevirtual 154, 3) := by decide +kernel
theorem dX12_greatestLoad_67 : decode cX12_greatestLoad 67 = .ok (.invokestatic 299, 3) := by decide +kernel
theorem dX12_greatestLoad_70 : decode cX12_greatestLoad 70 = .ok (.goto 4, 3) := by decide +kernel
theorem dX12_greatestLoad_73 : decode cX12_greatestLoad 73 = .ok (.iload_n 2, 1) := by decide +kernel
theorem dX12_greatestLoad_74 : decode cX12_greatestLoad 74 = .ok (.istore_n 2, 1) := by decide +kernel
theorem dX12_greatestLoad_75 : decode cX12_greatestLoad 75 = .ok (.iinc 3 1, 3) := by decide +kernel
theorem dX12_greatestLoad_78 : decode cX12_greatestLoad 78 = .ok (.goto (-60), 3) := by decide +kernel
theorem dX12_greatestLoad_81 : decode cX12_greatestLoad 81 = .ok (.sipush 5000, 3) := by decide +kernel
theorem dX12_greatestLoad_84 : decode cX12_greatestLoad 84 = .ok (.iload_n 2, 1) := by decide +kernel
theorem dX12_greatestLoad_85 : decode cX12_greatestLoad 85 = .ok (.invokestatic 441, 3) := by decide +kernel
theorem dX12_greatestLoad_88 : decode cX12_greatestLoad 88 = .ok (.ireturn, 1) := by decide +kernel
theorem dX12_areLoad_0 : decode cX12_areLoad 0 = .ok (.iload_n 1, 1) := by decide +kernel
theorem dX12_areLoad_1 : decode cX12_areLoad 1 = .ok (.i2l, 1) := by decide +kernel
theorem dX12_areLoad_2 : decode cX12_areLoad 2 = .ok (.lconst 1, 1) := by decide +kernel
theorem dX12_areLoad_3 : decode cX12_areLoad 3 = .ok (.ldc2_w 456, 3) := by decide +kernel
theorem dX12_areLoad_6 : decode cX12_areLoad 6 = .ok (.invokestatic 282, 3) := by decide +kernel
theorem dX12_areLoad_9 : decode cX12_areLoad 9 = .ok (.ifCond .eq 19, 3) := by decide +kernel
theorem dX12_areLoad_12 : decode cX12_areLoad 12 = .ok (.iload_n 2, 1) := by decide +kernel
theorem dX12_areLoad_13 : decode cX12_areLoad 13 = .ok (.i2l, 1) := by decide +kernel
theorem dX12_areLoad_14 : decode cX12_areLoad 14 = .ok (.lconst 0, 1) := by decide +kernel
theorem dX12_areLoad_15 : decode cX12_areLoad 15 = .ok (.ldc2_w 415, 3) := by decide +kernel
theorem dX12_areLoad_18 : decode cX12_areLoad 18 = .ok (.invokestatic 282, 3) := by decide +kernel
theorem dX12_areLoad_21 : decode cX12_areLoad 21 = .ok (.ifCond .eq 7, 3) := by decide +kernel
theorem dX12_areLoad_24 : decode cX12_areLoad 24 = .ok (.iconst 1, 1) := by decide +kernel
theorem dX12_areLoad_25 : decode cX12_areLoad 25 = .ok (.goto 4, 3) := by decide +kernel
theorem dX12_areLoad_28 : decode cX12_areLoad 28 = .ok (.iconst 0, 1) := by decide +kernel
theorem dX12_areLoad_29 : decode cX12_areLoad 29 = .ok (.ireturn, 1) := by decide +kernel
theorem dX12_refusal_0 : decode cX12_refusal 0 = .ok (.aload_n 0, 1) := by decide +kernel
theorem dX12_refusal_1 : decode cX12_refusal 1 = .ok (.aload_n 0, 1) := by decide +kernel
theorem dX12_refusal_2 : decode cX12_refusal 2 = .ok (.iload_n 1, 1) := by decide +kernel
theorem dX12_refusal_3 : decode cX12_refusal 3 = .ok (.invokevirtual 438, 3) := by decide +kernel
theorem dX12_refusal_6 : decode cX12_refusal 6 = .ok (.aload_n 0, 1) := by decide +kernel
theorem dX12_refusal_7 : decode cX12_refusal 7 = .ok (.iload_n 2, 1) := by decide +kernel
theorem dX12_refusal_8 : decode cX12_refusal 8 = .ok (.iload_n 3, 1) := by decide +kernel
theorem dX12_refusal_9 : decode cX12_refusal 9 = .ok (.invokevirtual 462, 3) := by decide +kernel
theorem dX12_refusal_12 : decode cX12_refusal 12 = .ok (.invokevirtual 458, 3) := by decide +kernel
theorem dX12_refusal_15 : decode cX12_refusal 15 = .ok (.ifCond .eq 13, 3) := by decide +kernel
theorem dX12_refusal_18 : decode cX12_refusal 18 = .ok (.aload_n 0, 1) := by decide +kernel
theorem dX12_refusal_19 : decode cX12_refusal 19 = .ok (.iload_n 1, 1) := by decide +kernel
theorem dX12_refusal_20 : decode cX12_refusal 20 = .ok (.iload_n 2, 1) := by decide +kernel
theorem dX12_refusal_21 : decode cX12_refusal 21 = .ok (.iload_n 3, 1) := by decide +kernel
theorem dX12_refusal_22 : decode cX12_refusal 22 = .ok (.invokevirtual 323, 3) := by decide +kernel
theorem dX12_refusal_25 : decode cX12_refusal 25 = .ok (.goto 4, 3) := by decide +kernel
theorem dX12_refusal_28 : decode cX12_refusal 28 = .ok (.iconst 0, 1) := by decide +kernel
theorem dX12_refusal_29 : decode cX12_refusal 29 = .ok (.ireturn, 1) := by decide +kernel
theorem dX12_valueIfDelivered_0 : decode cX12_valueIfDelivered 0 = .ok (.aload_n 0, 1) := by decide +kernel
theorem dX12_valueIfDelivered_1 : decode cX12_valueIfDelivered 1 = .ok (.aload_n 0, 1) := by decide +kernel
theorem dX12_valueIfDelivered_2 : decode cX12_valueIfDelivered 2 = .ok (.iload_n 1, 1) := by decide +kernel
theorem dX12_valueIfDelivered_3 : decode cX12_valueIfDelivered 3 = .ok (.invokevirtual 438, 3) := by decide +kernel
theorem dX12_valueIfDelivered_6 : decode cX12_valueIfDelivered 6 = .ok (.aload_n 0, 1) := by decide +kernel
theorem dX12_valueIfDelivered_7 : decode cX12_valueIfDelivered 7 = .ok (.iload_n 2, 1) := by decide +kernel
theorem dX12_valueIfDelivered_8 : decode cX12_valueIfDelivered 8 = .ok (.iload_n 3, 1) := by decide +kernel
theorem dX12_valueIfDelivered_9 : decode cX12_valueIfDelivered 9 = .ok (.invokevirtual 462, 3) := by decide +kernel
theorem dX12_valueIfDelivered_12 : decode cX12_valueIfDelivered 12 = .ok (.invokevirtual 458, 3) := by decide +kernel
theorem dX12_valueIfDelivered_15 : decode cX12_valueIfDelivered 15 = .ok (.ifCond .ne 5, 3) := by decide +kernel
theorem dX12_valueIfDelivered_18 : decode cX12_valueIfDelivered 18 = .ok (.iconst 0, 1) := by decide +kernel
theorem dX12_valueIfDelivered_19 : decode cX12_valueIfDelivered 19 = .ok (.ireturn, 1) := by decide +kernel
theorem dX12_valueIfDelivered_20 : decode cX12_valueIfDelivered 20 = .ok (.aload_n 0, 1) := by decide +kernel
theorem dX12_valueIfDelivered_21 : decode cX12_valueIfDelivered 21 = .ok (.iload_n 1, 1) := by decide +kernel
theorem dX12_valueIfDelivered_22 : decode cX12_valueIfDelivered 22 = .ok (.iload_n 2, 1) := by decide +kernel
theorem dX12_valueIfDelivered_23 : decode cX12_valueIfDelivered 23 = .ok (.iload_n 3, 1) := by decide +kernel
theorem dX12_valueIfDelivered_24 : decode cX12_valueIfDelivered 24 = .ok (.invokevirtual 323, 3) := by decide +kernel
theorem dX12_valueIfDelivered_27 : decode cX12_valueIfDelivered 27 = .ok (.ifCond .eq 7, 3) := by decide +kernel
theorem dX12_valueIfDelivered_30 : decode cX12_valueIfDelivered 30 = .ok (.iconst (-1), 1) := by decide +kernel
theorem dX12_valueIfDelivered_31 : decode cX12_valueIfDelivered 31 = .ok (.goto 22, 3) := by decide +kernel
theorem dX12_valueIfDelivered_34 : decode cX12_valueIfDelivered 34 = .ok (.iload_n 2, 1) := by decide +kernel
theorem dX12_valueIfDelivered_35 : decode cX12_valueIfDelivered 35 = .ok (.aload_n 0, 1) := by decide +kernel
theorem dX12_valueIfDelivered_36 : decode cX12_valueIfDelivered 36 = .ok (.aload_n 0, 1) := by decide +kernel
theorem dX12_valueIfDelivered_37 : decode cX12_valueIfDelivered 37 = .ok (.iload_n 1, 1) := by decide +kernel
theorem dX12_valueIfDelivered_38 : decode cX12_valueIfDelivered 38 = .ok (.iconst 1, 1) := by decide +kernel
theorem dX12_valueIfDelivered_39 : decode cX12_valueIfDelivered 39 = .ok (.invokevirtual 144, 3) := by decide +kernel
theorem dX12_valueIfDelivered_42 : decode cX12_valueIfDelivered 42 = .ok (.aload_n 0, 1) := by decide +kernel
theorem dX12_valueIfDelivered_43 : decode cX12_valueIfDelivered 43 = .ok (.iload_n 1, 1) := by decide +kernel
theorem dX12_valueIfDelivered_44 : decode cX12_valueIfDelivered 44 = .ok (.iload_n 2, 1) := by decide +kernel
theorem dX12_valueIfDelivered_45 : decode cX12_valueIfDelivered 45 = .ok (.iload_n 3, 1) := by decide +kernel
theorem dX12_valueIfDelivered_46 : decode cX12_valueIfDelivered 46 = .ok (.invokevirtual 173, 3) := by decide +kernel
theorem dX12_valueIfDelivered_49 : decode cX12_valueIfDelivered 49 = .ok (.invokevirtual 186, 3) := by decide +kernel
theorem dX12_valueIfDelivered_52 : decode cX12_valueIfDelivered 52 = .ok (.imul, 1) := by decide +kernel
theorem dX12_valueIfDelivered_53 : decode cX12_valueIfDelivered 53 = .ok (.ireturn, 1) := by decide +kernel
theorem dX12_tellLot_0 : decode cX12_tellLot 0 = .ok (.aload_n 0, 1) := by decide +kernel
theorem dX12_tellLot_1 : decode cX12_tellLot 1 = .ok (.aload_n 0, 1) := by decide +kernel
theorem dX12_tellLot_2 : decode cX12_tellLot 2 = .ok (.iload_n 1, 1) := by decide +kernel
theorem dX12_tellLot_3 : decode cX12_tellLot 3 = .ok (.invokevirtual 465, 3) := by decide +kernel
theorem dX12_tellLot_6 : decode cX12_tellLot 6 = .ok (.invokevirtual 396, 3) := by decide +kernel
theorem dX12_tellLot_9 : decode cX12_tellLot 9 = .ok (.ifCond .eq 12, 3) := by decide +kernel
theorem dX12_tellLot_12 : decode cX12_tellLot 12 = .ok (.aload_n 0, 1) := by decide +kernel
theorem dX12_tellLot_13 : decode cX12_tellLot 13 = .ok (.iload_n 1, 1) := by decide +kernel
theorem dX12_tellLot_14 : decode cX12_tellLot 14 = .ok (.iload_n 2, 1) := by decide +kernel
theorem dX12_tellLot_15 : decode cX12_tellLot 15 = .ok (.invokevirtual 198, 3) := by decide +kernel
theorem dX12_tellLot_18 : decode cX12_tellLot 18 = .ok (.goto 4, 3) := by decide +kernel
theorem dX12_tellLot_21 : decode cX12_tellLot 21 = .ok (.iconst 0, 1) := by decide +kernel
theorem dX12_tellLot_22 : decode cX12_tellLot 22 = .ok (.ireturn, 1) := by decide +kernel
theorem dX12_lotVariety_0 : decode cX12_lotVariety 0 = .ok (.aload_n 0, 1) := by decide +kernel
theorem dX12_lotVariety_1 : decode cX12_lotVariety 1 = .ok (.iload_n 1, 1) := by decide +kernel
theorem dX12_lotVariety_2 : decode cX12_lotVariety 2 = .ok (.iconst 0, 1) := by decide +kernel
theorem dX12_lotVariety_3 : decode cX12_lotVariety 3 = .ok (.invokevirtual 468, 3) := by decide +kernel
theorem dX12_lotVariety_6 : decode cX12_lotVariety 6 = .ok (.ireturn, 1) := by decide +kernel
theorem dX12_lotSugar_0 : decode cX12_lotSugar 0 = .ok (.aload_n 0, 1) := by decide +kernel
theorem dX12_lotSugar_1 : decode cX12_lotSugar 1 = .ok (.iload_n 1, 1) := by decide +kernel
theorem dX12_lotSugar_2 : decode cX12_lotSugar 2 = .ok (.iconst 1, 1) := by decide +kernel
theorem dX12_lotSugar_3 : decode cX12_lotSugar 3 = .ok (.invokevirtual 468, 3) := by decide +kernel
theorem dX12_lotSugar_6 : decode cX12_lotSugar 6 = .ok (.ireturn, 1) := by decide +kernel
theorem dX12_unsold_0 : decode cX12_unsold 0 = .ok (.aload_n 0, 1) := by decide +kernel
theorem dX12_unsold_1 : decode cX12_unsold 1 = .ok (.iload_n 1, 1) := by decide +kernel
theorem dX12_unsold_2 : decode cX12_unsold 2 = .ok (.iconst 3, 1) := by decide +kernel
theorem dX12_unsold_3 : decode cX12_unsold 3 = .ok (.invokevirtual 468, 3) := by decide +kernel
theorem dX12_unsold_6 : decode cX12_unsold 6 = .ok (.ireturn, 1) := by decide +kernel
theorem dX12_sweetestLot_0 : decode cX12_sweetestLot 0 = .ok (.aload_n 0, 1) := by decide +kernel
theorem dX12_sweetestLot_1 : decode cX12_sweetestLot 1 = .ok (.iconst 0, 1) := by decide +kernel
theorem dX12_sweetestLot_2 : decode cX12_sweetestLot 2 = .ok (.putfield 3, 3) := by decide +kernel
theorem dX12_sweetestLot_5 : decode cX12_sweetestLot 5 = .ok (.iconst (-1), 1) := by decide +kernel
theorem dX12_sweetestLot_6 : decode cX12_sweetestLot 6 = .ok (.istore_n 1, 1) := by decide +kernel
theorem dX12_sweetestLot_7 : decode cX12_sweetestLot 7 = .ok (.iconst 0, 1) := by decide +kernel
theorem dX12_sweetestLot_8 : decode cX12_sweetestLot 8 = .ok (.istore_n 2, 1) := by decide +kernel
theorem dX12_sweetestLot_9 : decode cX12_sweetestLot 9 = .ok (.iload_n 2, 1) := by decide +kernel
theorem dX12_sweetestLot_10 : decode cX12_sweetestLot 10 = .ok (.aload_n 0, 1) := by decide +kernel
theorem dX12_sweetestLot_11 : decode cX12_sweetestLot 11 = .ok (.getfield 17, 3) := by decide +kernel
theorem dX12_sweetestLot_14 : decode cX12_sweetestLot 14 = .ok (.bipush 9, 2) := by decide +kernel
theorem dX12_sweetestLot_16 : decode cX12_sweetestLot 16 = .ok (.iaload, 1) := by decide +kernel
theorem dX12_sweetestLot_17 : decode cX12_sweetestLot 17 = .ok (.if_icmp .ge 54, 3) := by decide +kernel
theorem dX12_sweetestLot_20 : decode cX12_sweetestLot 20 = .ok (.iload_n 1, 1) := by decide +kernel
theorem dX12_sweetestLot_21 : decode cX12_sweetestLot 21 = .ok (.iconst (-1), 1) := by decide +kernel
theorem dX12_sweetestLot_22 : decode cX12_sweetestLot 22 = .ok (.if_icmp .eq 18, 3) := by decide +kernel
theorem dX12_sweetestLot_25 : decode cX12_sweetestLot 25 = .ok (.aload_n 0, 1) := by decide +kernel
theorem dX12_sweetestLot_26 : decode cX12_sweetestLot 26 = .ok (.iload_n 2, 1) := by decide +kernel
theorem dX12_sweetestLot_27 : decode cX12_sweetestLot 27 = .ok (.iconst 1, 1) := by decide +kernel
theorem dX12_sweetestLot_28 : decode cX12_sweetestLot 28 = .ok (.invokevirtual 198, 3) := by decide +kernel
theorem dX12_sweetestLot_31 : decode cX12_sweetestLot 31 = .ok (.aload_n 0, 1) := by decide +kernel
theorem dX12_sweetestLot_32 : decode cX12_sweetestLot 32 = .ok (.iload_n 1, 1) := by decide +kernel
theorem dX12_sweetestLot_33 : decode cX12_sweetestLot 33 = .ok (.iconst 1, 1) := by decide +kernel
theorem dX12_sweetestLot_34 : decode cX12_sweetestLot 34 = .ok (.invokevirtual 198, 3) := by decide +kernel
theorem dX12_sweetestLot_37 : decode cX12_sweetestLot 37 = .ok (.if_icmp .le 7, 3) := by decide +kernel
theorem dX12_sweetestLot_40 : decode cX12_sweetestLot 40 = .ok (.iconst 1, 1) := by decide +kernel
theorem dX12_sweetestLot_41 : decode cX12_sweetestLot 41 = .ok (.goto 4, 3) := by decide +kernel
theorem dX12_sweetestLot_44 : decode cX12_sweetestLot 44 = .ok (.iconst 0, 1) := by decide +kernel
theorem dX12_sweetestLot_45 : decode cX12_sweetestLot 45 = .ok (.istore_n 3, 1) := by decide +kernel
theorem dX12_sweetestLot_46 : decode cX12_sweetestLot 46 = .ok (.aload_n 0, 1) := by decide +kernel
theorem dX12_sweetestLot_47 : decode cX12_sweetestLot 47 = .ok (.iload_n 2, 1) := by decide +kernel
theorem dX12_sweetestLot_48 : decode cX12_sweetestLot 48 = .ok (.iconst 3, 1) := by decide +kernel
theorem dX12_sweetestLot_49 : decode cX12_sweetestLot 49 = .ok (.invokevirtual 198, 3) := by decide +kernel
theorem dX12_sweetestLot_52 : decode cX12_sweetestLot 52 = .ok (.ifCond .le 11, 3) := by decide +kernel
theorem dX12_sweetestLot_55 : decode cX12_sweetestLot 55 = .ok (.iload_n 3, 1) := by decide +kernel
theorem dX12_sweetestLot_56 : decode cX12_sweetestLot 56 = .ok (.ifCond .eq 7, 3) := by decide +kernel
theorem dX12_sweetestLot_59 : decode cX12_sweetestLot 59 = .ok (.iload_n 2, 1) := by decide +kernel
theorem dX12_sweetestLot_60 : decode cX12_sweetestLot 60 = .ok (.goto 4, 3) := by decide +kernel
theorem dX12_sweetestLot_63 : decode cX12_sweetestLot 63 = .ok (.iload_n 1, 1) := by decide +kernel
theorem dX12_sweetestLot_64 : decode cX12_sweetestLot 64 = .ok (.istore_n 1, 1) := by decide +kernel
theorem dX12_sweetestLot_65 : decode cX12_sweetestLot 65 = .ok (.iinc 2 1, 3) := by decide +kernel
theorem dX12_sweetestLot_68 : decode cX12_sweetestLot 68 = .ok (.goto (-59), 3) := by decide +kernel
theorem dX12_sweetestLot_71 : decode cX12_sweetestLot 71 = .ok (.iload_n 1, 1) := by decide +kernel
theorem dX12_sweetestLot_72 : decode cX12_sweetestLot 72 = .ok (.ireturn, 1) := by decide +kernel
theorem dX12_bottlesOf_0 : decode cX12_bottlesOf 0 = .ok (.aload_n 0, 1) := by decide +kernel
theorem dX12_bottlesOf_1 : decode cX12_bottlesOf 1 = .ok (.aload_n 0, 1) := by decide +kernel
theorem dX12_bottlesOf_2 : decode cX12_bottlesOf 2 = .ok (.iload_n 1, 1) := by decide +kernel
theorem dX12_bottlesOf_3 : decode cX12_bottlesOf 3 = .ok (.invokevirtual 453, 3) := by decide +kernel
theorem dX12_bottlesOf_6 : decode cX12_bottlesOf 6 = .ok (.invokevirtual 396, 3) := by decide +kernel
theorem dX12_bottlesOf_9 : decode cX12_bottlesOf 9 = .ok (.ifCond .ne 5, 3) := by decide +kernel
theorem dX12_bottlesOf_12 : decode cX12_bottlesOf 12 = .ok (.iconst 0, 1) := by decide +kernel
theorem dX12_bottlesOf_13 : decode cX12_bottlesOf 13 = .ok (.ireturn, 1) := by decide +kernel
theorem dX12_bottlesOf_14 : decode cX12_bottlesOf 14 = .ok (.iconst 0, 1) := by decide +kernel
theorem dX12_bottlesOf_15 : decode cX12_bottlesOf 15 = .ok (.istore_n 2, 1) := by decide +kernel
theorem dX12_bottlesOf_16 : decode cX12_bottlesOf 16 = .ok (.iconst 0, 1) := by decide +kernel
theorem dX12_bottlesOf_17 : decode cX12_bottlesOf 17 = .ok (.istore_n 3, 1) := by decide +kernel
theorem dX12_bottlesOf_18 : decode cX12_bottlesOf 18 = .ok (.iload_n 3, 1) := by decide +kernel
theorem dX12_bottlesOf_19 : decode cX12_bottlesOf 19 = .ok (.aload_n 0, 1) := by decide +kernel
theorem dX12_bottlesOf_20 : decode cX12_bottlesOf 20 = .ok (.getfield 17, 3) := by decide +kernel
theorem dX12_bottlesOf_23 : decode cX12_bottlesOf 23 = .ok (.bipush 8, 2) := by decide +kernel
theorem dX12_bottlesOf_25 : decode cX12_bottlesOf 25 = .ok (.iaload, 1) := by decide +kernel
theorem dX12_bottlesOf_26 : decode cX12_bottlesOf 26 = .ok (.if_icmp .ge 32, 3) := by decide +kernel
theorem dX12_bottlesOf_29 : decode cX12_bottlesOf 29 = .ok (.iload_n 2, 1) := by decide +kernel
theorem dX12_bottlesOf_30 : decode cX12_bottlesOf 30 = .ok (.aload_n 0, 1) := by decide +kernel
theorem dX12_bottlesOf_31 : decode cX12_bottlesOf 31 = .ok (.iload_n 3, 1) := by decide +kernel
theorem dX12_bottlesOf_32 : decode cX12_bottlesOf 32 = .ok (.iconst 2, 1) := by decide +kernel
theorem dX12_bottlesOf_33 : decode cX12_bottlesOf 33 = .ok (.invokevirtual 151, 3) := by decide +kernel
theorem dX12_bottlesOf_36 : decode cX12_bottlesOf 36 = .ok (.iload_n 1, 1) := by decide +kernel
theorem dX12_bottlesOf_37 : decode cX12_bottlesOf 37 = .ok (.if_icmp .ne 12, 3) := by decide +kernel
theorem dX12_bottlesOf_40 : decode cX12_bottlesOf 40 = .ok (.aload_n 0, 1) := by decide +kernel
theorem dX12_bottlesOf_41 : decode cX12_bottlesOf 41 = .ok (.iload_n 3, 1) := by decide +kernel
theorem dX12_bottlesOf_42 : decode cX12_bottlesOf 42 = .ok (.iconst 1, 1) := by decide +kernel
theorem dX12_bottlesOf_43 : decode cX12_bottlesOf 43 = .ok (.invokevirtual 151, 3) := by decide +kernel
theorem dX12_bottlesOf_46 : decode cX12_bottlesOf 46 = .ok (.goto 4, 3) := by decide +kernel
theorem dX12_bottlesOf_49 : decode cX12_bottlesOf 49 = .ok (.iconst 0, 1) := by decide +kernel
theorem dX12_bottlesOf_50 : decode cX12_bottlesOf 50 = .ok (.iadd, 1) := by decide +kernel
theorem dX12_bottlesOf_51 : decode cX12_bottlesOf 51 = .ok (.istore_n 2, 1) := by decide +kernel
theorem dX12_bottlesOf_52 : decode cX12_bottlesOf 52 = .ok (.iinc 3 1, 3) := by decide +kernel
theorem dX12_bottlesOf_55 : decode cX12_bottlesOf 55 = .ok (.goto (-37), 3) := by decide +kernel
theorem dX12_bottlesOf_58 : decode cX12_bottlesOf 58 = .ok (.iconst 0, 1) := by decide +kernel
theorem dX12_bottlesOf_59 : decode cX12_bottlesOf 59 = .ok (.istore_n 3, 1) := by decide +kernel
theorem dX12_bottlesOf_60 : decode cX12_bottlesOf 60 = .ok (.iload_n 3, 1) := by decide +kernel
theorem dX12_bottlesOf_61 : decode cX12_bottlesOf 61 = .ok (.aload_n 0, 1) := by decide +kernel
theorem dX12_bottlesOf_62 : decode cX12_bottlesOf 62 = .ok (.getfield 17, 3) := by decide +kernel
theorem dX12_bottlesOf_65 : decode cX12_bottlesOf 65 = .ok (.bipush 9, 2) := by decide +kernel
theorem dX12_bottlesOf_67 : decode cX12_bottlesOf 67 = .ok (.iaload, 1) := by decide +kernel
theorem dX12_bottlesOf_68 : decode cX12_bottlesOf 68 = .ok (.if_icmp .ge 32, 3) := by decide +kernel
theorem dX12_bottlesOf_71 : decode cX12_bottlesOf 71 = .ok (.iload_n 2, 1) := by decide +kernel
theorem dX12_bottlesOf_72 : decode cX12_bottlesOf 72 = .ok (.aload_n 0, 1) := by decide +kernel
theorem dX12_bottlesOf_73 : decode cX12_bottlesOf 73 = .ok (.iload_n 3, 1) := by decide +kernel
theorem dX12_bottlesOf_74 : decode cX12_bottlesOf 74 = .ok (.iconst 0, 1) := by decide +kernel
theorem dX12_bottlesOf_75 : decode cX12_bottlesOf 75 = .ok (.invokevirtual 198, 3) := by decide +kernel
theorem dX12_bottlesOf_78 : decode cX12_bottlesOf 78 = .ok (.iload_n 1, 1) := by decide +kernel
theorem dX12_bottlesOf_79 : decode cX12_bottlesOf 79 = .ok (.if_icmp .ne 12, 3) := by decide +kernel
theorem dX12_bottlesOf_82 : decode cX12_bottlesOf 82 = .ok (.aload_n 0, 1) := by decide +kernel
theorem dX12_bottlesOf_83 : decode cX12_bottlesOf 83 = .ok (.iload_n 3, 1) := by decide +kernel
theorem dX12_bottlesOf_84 : decode cX12_bottlesOf 84 = .ok (.iconst 3, 1) := by decide +kernel
theorem dX12_bottlesOf_85 : decode cX12_bottlesOf 85 = .ok (.invokevirtual 198, 3) := by decide +kernel
theorem dX12_bottlesOf_88 : decode cX12_bottlesOf 88 = .ok (.goto 4, 3) := by decide +kernel
theorem dX12_bottlesOf_91 : decode cX12_bottlesOf 91 = .ok (.iconst 0, 1) := by decide +kernel
theorem dX12_bottlesOf_92 : decode cX12_bottlesOf 92 = .ok (.iadd, 1) := by decide +kernel
theorem dX12_bottlesOf_93 : decode cX12_bottlesOf 93 = .ok (.istore_n 2, 1) := by decide +kernel
theorem dX12_bottlesOf_94 : decode cX12_bottlesOf 94 = .ok (.iinc 3 1, 3) := by decide +kernel
theorem dX12_bottlesOf_97 : decode cX12_bottlesOf 97 = .ok (.goto (-37), 3) := by decide +kernel
theorem dX12_bottlesOf_100 : decode cX12_bottlesOf 100 = .ok (.iload_n 2, 1) := by decide +kernel
theorem dX12_bottlesOf_101 : decode cX12_bottlesOf 101 = .ok (.ireturn, 1) := by decide +kernel
theorem dX12_openAll_0 : decode cX12_openAll 0 = .ok (.iconst 0, 1) := by decide +kernel
theorem dX12_openAll_1 : decode cX12_openAll 1 = .ok (.istore_n 1, 1) := by decide +kernel
theorem dX12_openAll_2 : decode cX12_openAll 2 = .ok (.iconst 0, 1) := by decide +kernel
theorem dX12_openAll_3 : decode cX12_openAll 3 = .ok (.istore_n 2, 1) := by decide +kernel
theorem dX12_openAll_4 : decode cX12_openAll 4 = .ok (.iload_n 2, 1) := by decide +kernel
theorem dX12_openAll_5 : decode cX12_openAll 5 = .ok (.aload_n 0, 1) := by decide +kernel
theorem dX12_openAll_6 : decode cX12_openAll 6 = .ok (.getfield 17, 3) := by decide +kernel
theorem dX12_openAll_9 : decode cX12_openAll 9 = .ok (.iconst 5, 1) := by decide +kernel
theorem dX12_openAll_10 : decode cX12_openAll 10 = .ok (.iaload, 1) := by decide +kernel
theorem dX12_openAll_11 : decode cX12_openAll 11 = .ok (.if_icmp .ge 17, 3) := by decide +kernel
theorem dX12_openAll_14 : decode cX12_openAll 14 = .ok (.iload_n 1, 1) := by decide +kernel
theorem dX12_openAll_15 : decode cX12_openAll 15 = .ok (.aload_n 0, 1) := by decide +kernel
theorem dX12_openAll_16 : decode cX12_openAll 16 = .ok (.iload_n 2, 1) := by decide +kernel
theorem dX12_openAll_17 : decode cX12_openAll 17 = .ok (.invokevirtual 212, 3) := by decide +kernel
theorem dX12_openAll_20 : decode cX12_openAll 20 = .ok (.iadd, 1) := by decide +kernel
theorem dX12_openAll_21 : decode cX12_openAll 21 = .ok (.istore_n 1, 1) := by decide +kernel
theorem dX12_openAll_22 : decode cX12_openAll 22 = .ok (.iinc 2 1, 3) := by decide +kernel
theorem dX12_openAll_25 : decode cX12_openAll 25 = .ok (.goto (-21), 3) := by decide +kernel
theorem dX12_openAll_28 : decode cX12_openAll 28 = .ok (.iload_n 1, 1) := by decide +kernel
theorem dX12_openAll_29 : decode cX12_openAll 29 = .ok (.ireturn, 1) := by decide +kernel
theorem dX12_missingCash_0 : decode cX12_missingCash 0 = .ok (.aload_n 0, 1) := by decide +kernel
theorem dX12_missingCash_1 : decode cX12_missingCash 1 = .ok (.iconst 0, 1) := by decide +kernel
theorem dX12_missingCash_2 : decode cX12_missingCash 2 = .ok (.putfield 3, 3) := by decide +kernel
theorem dX12_missingCash_5 : decode cX12_missingCash 5 = .ok (.iconst 0, 1) := by decide +kernel
theorem dX12_missingCash_6 : decode cX12_missingCash 6 = .ok (.aload_n 0, 1) := by decide +kernel
theorem dX12_missingCash_7 : decode cX12_missingCash 7 = .ok (.invokevirtual 471, 3) := by decide +kernel
theorem dX12_missingCash_10 : decode cX12_missingCash 10 = .ok (.aload_n 0, 1) := by decide +kernel
theorem dX12_missingCash_11 : decode cX12_missingCash 11 = .ok (.getfield 17, 3) := by decide +kernel
theorem dX12_missingCash_14 : decode cX12_missingCash 14 = .ok (.iconst 2, 1) := by decide +kernel
theorem dX12_missingCash_15 : decode cX12_missingCash 15 = .ok (.iaload, 1) := by decide +kernel
theorem dX12_missingCash_16 : decode cX12_missingCash 16 = .ok (.isub, 1) := by decide +kernel
theorem dX12_missingCash_17 : decode cX12_missingCash 17 = .ok (.invokestatic 299, 3) := by decide +kernel
theorem dX12_missingCash_20 : decode cX12_missingCash 20 = .ok (.ireturn, 1) := by decide +kernel
theorem dX12_cash_0 : decode cX12_cash 0 = .ok (.aload_n 0, 1) := by decide +kernel
theorem dX12_cash_1 : decode cX12_cash 1 = .ok (.iconst 2, 1) := by decide +kernel
theorem dX12_cash_2 : decode cX12_cash 2 = .ok (.invokevirtual 412, 3) := by decide +kernel
theorem dX12_cash_5 : decode cX12_cash 5 = .ok (.ireturn, 1) := by decide +kernel
theorem dX12_owedToAll_0 : decode cX12_owedToAll 0 = .ok (.aload_n 0, 1) := by decide +kernel
theorem dX12_owedToAll_1 : decode cX12_owedToAll 1 = .ok (.iconst 0, 1) := by decide +kernel
theorem dX12_owedToAll_2 : decode cX12_owedToAll 2 = .ok (.putfield 3, 3) := by decide +kernel
theorem dX12_owedToAll_5 : decode cX12_owedToAll 5 = .ok (.aload_n 0, 1) := by decide +kernel
theorem dX12_owedToAll_6 : decode cX12_owedToAll 6 = .ok (.invokevirtual 471, 3) := by decide +kernel
theorem dX12_owedToAll_9 : decode cX12_owedToAll 9 = .ok (.ireturn, 1) := by decide +kernel
theorem dX12_payableGrowers_0 : decode cX12_payableGrowers 0 = .ok (.aload_n 0, 1) := by decide +kernel
theorem dX12_payableGrowers_1 : decode cX12_payableGrowers 1 = .ok (.iconst 0, 1) := by decide +kernel
theorem dX12_payableGrowers_2 : decode cX12_payableGrowers 2 = .ok (.putfield 3, 3) := by decide +kernel
theorem dX12_payableGrowers_5 : decode cX12_payableGrowers 5 = .ok (.aload_n 0, 1) := by decide +kernel
theorem dX12_payableGrowers_6 : decode cX12_payableGrowers 6 = .ok (.getfield 17, 3) := by decide +kernel
theorem dX12_payableGrowers_9 : decode cX12_payableGrowers 9 = .ok (.iconst 2, 1) := by decide +kernel
theorem dX12_payableGrowers_10 : decode cX12_payableGrowers 10 = .ok (.iaload, 1) := by decide +kernel
theorem dX12_payableGrowers_11 : decode cX12_payableGrowers 11 = .ok (.istore_n 1, 1) := by decide +kernel
theorem dX12_payableGrowers_12 : decode cX12_payableGrowers 12 = .ok (.iconst 0, 1) := by decide +kernel
theorem dX12_payableGrowers_13 : decode cX12_payableGrowers 13 = .ok (.istore_n 2, 1) := by decide +kernel
theorem dX12_payableGrowers_14 : decode cX12_payableGrowers 14 = .ok (.iconst 0, 1) := by decide +kernel
theorem dX12_payableGrowers_15 : decode cX12_payableGrowers 15 = .ok (.istore_n 3, 1) := by decide +kernel
theorem dX12_payableGrowers_16 : decode cX12_payableGrowers 16 = .ok (.iload_n 3, 1) := by decide +kernel
theorem dX12_payableGrowers_17 : decode cX12_payableGrowers 17 = .ok (.aload_n 0, 1) := by decide +kernel
theorem dX12_payableGrowers_18 : decode cX12_payableGrowers 18 = .ok (.getfield 17, 3) := by decide +kernel
theorem dX12_payableGrowers_21 : decode cX12_payableGrowers 21 = .ok (.iconst 5, 1) := by decide +kernel
theorem dX12_payableGrowers_22 : decode cX12_payableGrowers 22 = .ok (.iaload, 1) := by decide +kernel
theorem dX12_payableGrowers_23 : decode cX12_payableGrowers 23 = .ok (.if_icmp .ge 42, 3) := by decide +kernel
theorem dX12_payableGrowers_26 : decode cX12_payableGrowers 26 = .ok (.aload_n 0, 1) := by decide +kernel
theorem dX12_payableGrowers_27 : decode cX12_payableGrowers 27 = .ok (.iload_n 3, 1) := by decide +kernel
theorem dX12_payableGrowers_28 : decode cX12_payableGrowers 28 = .ok (.invokevirtual 212, 3) := by decide +kernel
theorem dX12_payableGrowers_31 : decode cX12_payableGrowers 31 = .ok (.istore 4, 2) := by decide +kernel
theorem dX12_payableGrowers_33 : decode cX12_payableGrowers 33 = .ok (.iload 4, 2) := by decide +kernel
theorem dX12_payableGrowers_35 : decode cX12_payableGrowers 35 = .ok (.iload_n 1, 1) := by decide +kernel
theorem dX12_payableGrowers_36 : decode cX12_payableGrowers 36 = .ok (.if_icmp .le 5, 3) := by decide +kernel
theorem dX12_payableGrowers_39 : decode cX12_payableGrowers 39 = .ok (.iload_n 2, 1) := by decide +kernel
theorem dX12_payableGrowers_40 : decode cX12_payableGrowers 40 = .ok (.ireturn, 1) := by decide +kernel
theorem dX12_payableGrowers_41 : decode cX12_payableGrowers 41 = .ok (.iload_n 2, 1) := by decide +kernel
theorem dX12_payableGrowers_42 : decode cX12_payableGrowers 42 = .ok (.iload 4, 2) := by decide +kernel
theorem dX12_payableGrowers_44 : decode cX12_payableGrowers 44 = .ok (.ifCond .le 7, 3) := by decide +kernel
theorem dX12_payableGrowers_47 : decode cX12_payableGrowers 47 = .ok (.iconst 1, 1) := by decide +kernel
theorem dX12_payableGrowers_48 : decode cX12_payableGrowers 48 = .ok (.goto 4, 3) := by decide +kernel
theorem dX12_payableGrowers_51 : decode cX12_payableGrowers 51 = .ok (.iconst 0, 1) := by decide +kernel
theorem dX12_payableGrowers_52 : decode cX12_payableGrowers 52 = .ok (.iadd, 1) := by decide +kernel
theorem dX12_payableGrowers_53 : decode cX12_payableGrowers 53 = .ok (.istore_n 2, 1) := by decide +kernel
theorem dX12_payableGrowers_54 : decode cX12_payableGrowers 54 = .ok (.iload_n 1, 1) := by decide +kernel
theorem dX12_payableGrowers_55 : decode cX12_payableGrowers 55 = .ok (.iload 4, 2) := by decide +kernel
theorem dX12_payableGrowers_57 : decode cX12_payableGrowers 57 = .ok (.isub, 1) := by decide +kernel
theorem dX12_payableGrowers_58 : decode cX12_payableGrowers 58 = .ok (.istore_n 1, 1) := by decide +kernel
theorem dX12_payableGrowers_59 : decode cX12_payableGrowers 59 = .ok (.iinc 3 1, 3) := by decide +kernel
theorem dX12_payableGrowers_62 : decode cX12_payableGrowers 62 = .ok (.goto (-46), 3) := by decide +kernel
theorem dX12_payableGrowers_65 : decode cX12_payableGrowers 65 = .ok (.iload_n 2, 1) := by decide +kernel
theorem dX12_payableGrowers_66 : decode cX12_payableGrowers 66 = .ok (.ireturn, 1) := by decide +kernel
theorem dX12_weightAll_0 : decode cX12_weightAll 0 = .ok (.iconst 0, 1) := by decide +kernel
theorem dX12_weightAll_1 : decode cX12_weightAll 1 = .ok (.istore_n 1, 1) := by decide +kernel
theorem dX12_weightAll_2 : decode cX12_weightAll 2 = .ok (.iconst 0, 1) := by decide +kernel
theorem dX12_weightAll_3 : decode cX12_weightAll 3 = .ok (.istore_n 2, 1) := by decide +kernel
theorem dX12_weightAll_4 : decode cX12_weightAll 4 = .ok (.iload_n 2, 1) := by decide +kernel
theorem dX12_weightAll_5 : decode cX12_weightAll 5 = .ok (.aload_n 0, 1) := by decide +kernel
theorem dX12_weightAll_6 : decode cX12_weightAll 6 = .ok (.getfield 17, 3) := by decide +kernel
theorem dX12_weightAll_9 : decode cX12_weightAll 9 = .ok (.bipush 7, 2) := by decide +kernel
theorem dX12_weightAll_11 : decode cX12_weightAll 11 = .ok (.iaload, 1) := by decide +kernel
theorem dX12_weightAll_12 : decode cX12_weightAll 12 = .ok (.if_icmp .ge 18, 3) := by decide +kernel
theorem dX12_weightAll_15 : decode cX12_weightAll 15 = .ok (.iload_n 1, 1) := by decide +kernel
theorem dX12_weightAll_16 : decode cX12_weightAll 16 = .ok (.aload_n 0, 1) := by decide +kernel
theorem dX12_weightAll_17 : decode cX12_weightAll 17 = .ok (.iload_n 2, 1) := by decide +kernel
theorem dX12_weightAll_18 : decode cX12_weightAll 18 = .ok (.iconst 1, 1) := by decide +kernel
theorem dX12_weightAll_19 : decode cX12_weightAll 19 = .ok (.invokevirtual 148, 3) := by decide +kernel
theorem dX12_weightAll_22 : decode cX12_weightAll 22 = .ok (.iadd, 1) := by decide +kernel
theorem dX12_weightAll_23 : decode cX12_weightAll 23 = .ok (.istore_n 1, 1) := by decide +kernel
theorem dX12_weightAll_24 : decode cX12_weightAll 24 = .ok (.iinc 2 1, 3) := by decide +kernel
theorem dX12_weightAll_27 : decode cX12_weightAll 27 = .ok (.goto (-23), 3) := by decide +kernel
theorem dX12_weightAll_30 : decode cX12_weightAll 30 = .ok (.iload_n 1, 1) := by decide +kernel
theorem dX12_weightAll_31 : decode cX12_weightAll 31 = .ok (.ireturn, 1) := by decide +kernel
theorem dX12_contentAll_0 : decode cX12_contentAll 0 = .ok (.iconst 0, 1) := by decide +kernel
theorem dX12_contentAll_1 : decode cX12_contentAll 1 = .ok (.istore_n 1, 1) := by decide +kernel
theorem dX12_contentAll_2 : decode cX12_contentAll 2 = .ok (.iconst 0, 1) := by decide +kernel
theorem dX12_contentAll_3 : decode cX12_contentAll 3 = .ok (.istore_n 2, 1) := by decide +kernel
theorem dX12_contentAll_4 : decode cX12_contentAll 4 = .ok (.iload_n 2, 1) := by decide +kernel
theorem dX12_contentAll_5 : decode cX12_contentAll 5 = .ok (.aload_n 0, 1) := by decide +kernel
theorem dX12_contentAll_6 : decode cX12_contentAll 6 = .ok (.getfield 17, 3) := by decide +kernel
theorem dX12_contentAll_9 : decode cX12_contentAll 9 = .ok (.bipush 8, 2) := by decide +kernel
theorem dX12_contentAll_11 : decode cX12_contentAll 11 = .ok (.iaload, 1) := by decide +kernel
theorem dX12_contentAll_12 : decode cX12_contentAll 12 = .ok (.if_icmp .ge 18, 3) := by decide +kernel
theorem dX12_contentAll_15 : decode cX12_contentAll 15 = .ok (.iload_n 1, 1) := by decide +kernel
theorem dX12_contentAll_16 : decode cX12_contentAll 16 = .ok (.aload_n 0, 1) := by decide +kernel
theorem dX12_contentAll_17 : decode cX12_contentAll 17 = .ok (.iload_n 2, 1) := by decide +kernel
theorem dX12_contentAll_18 : decode cX12_contentAll 18 = .ok (.iconst 1, 1) := by decide +kernel
theorem dX12_contentAll_19 : decode cX12_contentAll 19 = .ok (.invokevirtual 151, 3) := by decide +kernel
theorem dX12_contentAll_22 : decode cX12_contentAll 22 = .ok (.iadd, 1) := by decide +kernel
theorem dX12_contentAll_23 : decode cX12_contentAll 23 = .ok (.istore_n 1, 1) := by decide +kernel
theorem dX12_contentAll_24 : decode cX12_contentAll 24 = .ok (.iinc 2 1, 3) := by decide +kernel
theorem dX12_contentAll_27 : decode cX12_contentAll 27 = .ok (.goto (-23), 3) := by decide +kernel
theorem dX12_contentAll_30 : decode cX12_contentAll 30 = .ok (.iload_n 1, 1) := by decide +kernel
theorem dX12_contentAll_31 : decode cX12_contentAll 31 = .ok (.ireturn, 1) := by decide +kernel
theorem dX12_bottleDifference_0 : decode cX12_bottleDifference 0 = .ok (.aload_n 0, 1) := by decide +kernel
theorem dX12_bottleDifference_1 : decode cX12_bottleDifference 1 = .ok (.iconst 0, 1) := by decide +kernel
theorem dX12_bottleDifference_2 : decode cX12_bottleDifference 2 = .ok (.putfield 3, 3) := by decide +kernel
theorem dX12_bottleDifference_5 : decode cX12_bottleDifference 5 = .ok (.iconst 0, 1) := by decide +kernel
theorem dX12_bottleDifference_6 : decode cX12_bottleDifference 6 = .ok (.istore_n 1, 1) := by decide +kernel
theorem dX12_bottleDifference_7 : decode cX12_bottleDifference 7 = .ok (.iconst 0, 1) := by decide +kernel
theorem dX12_bottleDifference_8 : decode cX12_bottleDifference 8 = .ok (.istore_n 2, 1) := by decide +kernel
theorem dX12_bottleDifference_9 : decode cX12_bottleDifference 9 = .ok (.iload_n 2, 1) := by decide +kernel
theorem dX12_bottleDifference_10 : decode cX12_bottleDifference 10 = .ok (.aload_n 0, 1) := by decide +kernel
theorem dX12_bottleDifference_11 : decode cX12_bottleDifference 11 = .ok (.getfield 17, 3) := by decide +kernel
theorem dX12_bottleDifference_14 : decode cX12_bottleDifference 14 = .ok (.bipush 9, 2) := by decide +kernel
theorem dX12_bottleDifference_16 : decode cX12_bottleDifference 16 = .ok (.iaload, 1) := by decide +kernel
theorem dX12_bottleDifference_17 : decode cX12_bottleDifference 17 = .ok (.if_icmp .ge 18, 3) := by decide +kernel
theorem dX12_bottleDifference_20 : decode cX12_bottleDifference 20 = .ok (.iload_n 1, 1) := by decide +kernel
theorem dX12_bottleDifference_21 : decode cX12_bottleDifference 21 = .ok (.aload_n 0, 1) := by decide +kernel
theorem dX12_bottleDifference_22 : decode cX12_bottleDifference 22 = .ok (.iload_n 2, 1) := by decide +kernel
theorem dX12_bottleDifference_23 : decode cX12_bottleDifference 23 = .ok (.iconst 2, 1) := by decide +kernel
theorem dX12_bottleDifference_24 : decode cX12_bottleDifference 24 = .ok (.invokevirtual 198, 3) := by decide +kernel
theorem dX12_bottleDifference_27 : decode cX12_bottleDifference 27 = .ok (.iadd, 1) := by decide +kernel
theorem dX12_bottleDifference_28 : decode cX12_bottleDifference 28 = .ok (.istore_n 1, 1) := by decide +kernel
theorem dX12_bottleDifference_29 : decode cX12_bottleDifference 29 = .ok (.iinc 2 1, 3) := by decide +kernel
theorem dX12_bottleDifference_32 : decode cX12_bottleDifference 32 = .ok (.goto (-23), 3) := by decide +kernel
theorem dX12_bottleDifference_35 : decode cX12_bottleDifference 35 = .ok (.aload_n 0, 1) := by decide +kernel
theorem dX12_bottleDifference_36 : decode cX12_bottleDifference 36 = .ok (.invokevirtual 474, 3) := by decide +kernel
theorem dX12_bottleDifference_39 : decode cX12_bottleDifference 39 = .ok (.aload_n 0, 1) := by decide +kernel
theorem dX12_bottleDifference_40 : decode cX12_bottleDifference 40 = .ok (.invokevirtual 477, 3) := by decide +kernel
theorem dX12_bottleDifference_43 : decode cX12_bottleDifference 43 = .ok (.isub, 1) := by decide +kernel
theorem dX12_bottleDifference_44 : decode cX12_bottleDifference 44 = .ok (.iload_n 1, 1) := by decide +kernel
theorem dX12_bottleDifference_45 : decode cX12_bottleDifference 45 = .ok (.isub, 1) := by decide +kernel
theorem dX12_bottleDifference_46 : decode cX12_bottleDifference 46 = .ok (.ireturn, 1) := by decide +kernel
theorem dX12_cashDifference_0 : decode cX12_cashDifference 0 = .ok (.aload_n 0, 1) := by decide +kernel
theorem dX12_cashDifference_1 : decode cX12_cashDifference 1 = .ok (.iconst 0, 1) := by decide +kernel
theorem dX12_cashDifference_2 : decode cX12_cashDifference 2 = .ok (.putfield 3, 3) := by decide +kernel
theorem dX12_cashDifference_5 : decode cX12_cashDifference 5 = .ok (.aload_n 0, 1) := by decide +kernel
theorem dX12_cashDifference_6 : decode cX12_cashDifference 6 = .ok (.getfield 17, 3) := by decide +kernel
theorem dX12_cashDifference_9 : decode cX12_cashDifference 9 = .ok (.iconst 1, 1) := by decide +kernel
theorem dX12_cashDifference_10 : decode cX12_cashDifference 10 = .ok (.iaload, 1) := by decide +kernel
theorem dX12_cashDifference_11 : decode cX12_cashDifference 11 = .ok (.aload_n 0, 1) := by decide +kernel
theorem dX12_cashDifference_12 : decode cX12_cashDifference 12 = .ok (.getfield 17, 3) := by decide +kernel
theorem dX12_cashDifference_15 : decode cX12_cashDifference 15 = .ok (.bipush 10, 2) := by decide +kernel
theorem dX12_cashDifference_17 : decode cX12_cashDifference 17 = .ok (.iaload, 1) := by decide +kernel
theorem dX12_cashDifference_18 : decode cX12_cashDifference 18 = .ok (.iadd, 1) := by decide +kernel
theorem dX12_cashDifference_19 : decode cX12_cashDifference 19 = .ok (.aload_n 0, 1) := by decide +kernel
theorem dX12_cashDifference_20 : decode cX12_cashDifference 20 = .ok (.getfield 17, 3) := by decide +kernel
theorem dX12_cashDifference_23 : decode cX12_cashDifference 23 = .ok (.bipush 11, 2) := by decide +kernel
theorem dX12_cashDifference_25 : decode cX12_cashDifference 25 = .ok (.iaload, 1) := by decide +kernel
theorem dX12_cashDifference_26 : decode cX12_cashDifference 26 = .ok (.isub, 1) := by decide +kernel
theorem dX12_cashDifference_27 : decode cX12_cashDifference 27 = .ok (.aload_n 0, 1) := by decide +kernel
theorem dX12_cashDifference_28 : decode cX12_cashDifference 28 = .ok (.getfield 17, 3) := by decide +kernel
theorem dX12_cashDifference_31 : decode cX12_cashDifference 31 = .ok (.iconst 2, 1) := by decide +kernel
theorem dX12_cashDifference_32 : decode cX12_cashDifference 32 = .ok (.iaload, 1) := by decide +kernel
theorem dX12_cashDifference_33 : decode cX12_cashDifference 33 = .ok (.isub, 1) := by decide +kernel
theorem dX12_cashDifference_34 : decode cX12_cashDifference 34 = .ok (.ireturn, 1) := by decide +kernel
theorem dX12_fullness_0 : decode cX12_fullness 0 = .ok (.aload_n 0, 1) := by decide +kernel
theorem dX12_fullness_1 : decode cX12_fullness 1 = .ok (.iconst 0, 1) := by decide +kernel
theorem dX12_fullness_2 : decode cX12_fullness 2 = .ok (.putfield 3, 3) := by decide +kernel
theorem dX12_fullness_5 : decode cX12_fullness 5 = .ok (.iconst 0, 1) := by decide +kernel
theorem dX12_fullness_6 : decode cX12_fullness 6 = .ok (.istore_n 1, 1) := by decide +kernel
theorem dX12_fullness_7 : decode cX12_fullness 7 = .ok (.iconst 0, 1) := by decide +kernel
theorem dX12_fullness_8 : decode cX12_fullness 8 = .ok (.istore_n 2, 1) := by decide +kernel
theorem dX12_fullness_9 : decode cX12_fullness 9 = .ok (.iload_n 2, 1) := by decide +kernel
theorem dX12_fullness_10 : decode cX12_fullness 10 = .ok (.aload_n 0, 1) := by decide +kernel
theorem dX12_fullness_11 : decode cX12_fullness 11 = .ok (.getfield 17, 3) := by decide +kernel
theorem dX12_fullness_14 : decode cX12_fullness 14 = .ok (.bipush 8, 2) := by decide +kernel
theorem dX12_fullness_16 : decode cX12_fullness 16 = .ok (.iaload, 1) := by decide +kernel
theorem dX12_fullness_17 : decode cX12_fullness 17 = .ok (.if_icmp .ge 18, 3) := by decide +kernel
theorem dX12_fullness_20 : decode cX12_fullness 20 = .ok (.iload_n 1, 1) := by decide +kernel
theorem dX12_fullness_21 : decode cX12_fullness 21 = .ok (.aload_n 0, 1) := by decide +kernel
theorem dX12_fullness_22 : decode cX12_fullness 22 = .ok (.iload_n 2, 1) := by decide +kernel
theorem dX12_fullness_23 : decode cX12_fullness 23 = .ok (.iconst 0, 1) := by decide +kernel
theorem dX12_fullness_24 : decode cX12_fullness 24 = .ok (.invokevirtual 151, 3) := by decide +kernel
theorem dX12_fullness_27 : decode cX12_fullness 27 = .ok (.iadd, 1) := by decide +kernel
theorem dX12_fullness_28 : decode cX12_fullness 28 = .ok (.istore_n 1, 1) := by decide +kernel
theorem dX12_fullness_29 : decode cX12_fullness 29 = .ok (.iinc 2 1, 3) := by decide +kernel
theorem dX12_fullness_32 : decode cX12_fullness 32 = .ok (.goto (-23), 3) := by decide +kernel
theorem dX12_fullness_35 : decode cX12_fullness 35 = .ok (.iload_n 1, 1) := by decide +kernel
theorem dX12_fullness_36 : decode cX12_fullness 36 = .ok (.ifCond .ne 7, 3) := by decide +kernel
theorem dX12_fullness_39 : decode cX12_fullness 39 = .ok (.fconst 0, 1) := by decide +kernel
theorem dX12_fullness_40 : decode cX12_fullness 40 = .ok (.goto 11, 3) := by decide +kernel
theorem dX12_fullness_43 : decode cX12_fullness 43 = .ok (.aload_n 0, 1) := by decide +kernel
theorem dX12_fullness_44 : decode cX12_fullness 44 = .ok (.invokevirtual 477, 3) := by decide +kernel
theorem dX12_fullness_47 : decode cX12_fullness 47 = .ok (.i2f, 1) := by decide +kernel
theorem dX12_fullness_48 : decode cX12_fullness 48 = .ok (.iload_n 1, 1) := by decide +kernel
theorem dX12_fullness_49 : decode cX12_fullness 49 = .ok (.i2f, 1) := by decide +kernel
theorem dX12_fullness_50 : decode cX12_fullness 50 = .ok (.fdiv, 1) := by decide +kernel
theorem dX12_fullness_51 : decode cX12_fullness 51 = .ok (.freturn, 1) := by decide +kernel
theorem dX12_averageSugar_0 : decode cX12_averageSugar 0 = .ok (.aload_n 0, 1) := by decide +kernel
theorem dX12_averageSugar_1 : decode cX12_averageSugar 1 = .ok (.iconst 0, 1) := by decide +kernel
theorem dX12_averageSugar_2 : decode cX12_averageSugar 2 = .ok (.putfield 3, 3) := by decide +kernel
theorem dX12_averageSugar_5 : decode cX12_averageSugar 5 = .ok (.iconst 0, 1) := by decide +kernel
theorem dX12_averageSugar_6 : decode cX12_averageSugar 6 = .ok (.istore_n 1, 1) := by decide +kernel
theorem dX12_averageSugar_7 : decode cX12_averageSugar 7 = .ok (.iconst 0, 1) := by decide +kernel
theorem dX12_averageSugar_8 : decode cX12_averageSugar 8 = .ok (.istore_n 2, 1) := by decide +kernel
theorem dX12_averageSugar_9 : decode cX12_averageSugar 9 = .ok (.iload_n 2, 1) := by decide +kernel
theorem dX12_averageSugar_10 : decode cX12_averageSugar 10 = .ok (.aload_n 0, 1) := by decide +kernel
theorem dX12_averageSugar_11 : decode cX12_averageSugar 11 = .ok (.getfield 17, 3) := by decide +kernel
theorem dX12_averageSugar_14 : decode cX12_averageSugar 14 = .ok (.bipush 7, 2) := by decide +kernel
theorem dX12_averageSugar_16 : decode cX12_averageSugar 16 = .ok (.iaload, 1) := by decide +kernel
theorem dX12_averageSugar_17 : decode cX12_averageSugar 17 = .ok (.if_icmp .ge 25, 3) := by decide +kernel
theorem dX12_averageSugar_20 : decode cX12_averageSugar 20 = .ok (.iload_n 1, 1) := by decide +kernel
theorem dX12_averageSugar_21 : decode cX12_averageSugar 21 = .ok (.aload_n 0, 1) := by decide +kernel
theorem dX12_averageSugar_22 : decode cX12_averageSugar 22 = .ok (.iload_n 2, 1) := by decide +kernel
theorem dX12_averageSugar_23 : decode cX12_averageSugar 23 = .ok (.iconst 1, 1) := by decide +kernel
theorem dX12_averageSugar_24 : decode cX12_averageSugar 24 = .ok (.invokevirtual 148, 3) := by decide +kernel
theorem dX12_averageSugar_27 : decode cX12_averageSugar 27 = .ok (.aload_n 0, 1) := by decide +kernel
theorem dX12_averageSugar_28 : decode cX12_averageSugar 28 = .ok (.iload_n 2, 1) := by decide +kernel
theorem dX12_averageSugar_29 : decode cX12_averageSugar 29 = .ok (.iconst 2, 1) := by decide +kernel
theorem dX12_averageSugar_30 : decode cX12_averageSugar 30 = .ok (.invokevirtual 148, 3) := by decide +kernel
theorem dX12_averageSugar_33 : decode cX12_averageSugar 33 = .ok (.imul, 1) := by decide +kernel
theorem dX12_averageSugar_34 : decode cX12_averageSugar 34 = .ok (.iadd, 1) := by decide +kernel
theorem dX12_averageSugar_35 : decode cX12_averageSugar 35 = .ok (.istore_n 1, 1) := by decide +kernel
theorem dX12_averageSugar_36 : decode cX12_averageSugar 36 = .ok (.iinc 2 1, 3) := by decide +kernel
theorem dX12_averageSugar_39 : decode cX12_averageSugar 39 = .ok (.goto (-30), 3) := by decide +kernel
theorem dX12_averageSugar_42 : decode cX12_averageSugar 42 = .ok (.aload_n 0, 1) := by decide +kernel
theorem dX12_averageSugar_43 : decode cX12_averageSugar 43 = .ok (.getfield 17, 3) := by decide +kernel
theorem dX12_averageSugar_46 : decode cX12_averageSugar 46 = .ok (.bipush 7, 2) := by decide +kernel
theorem dX12_averageSugar_48 : decode cX12_averageSugar 48 = .ok (.iaload, 1) := by decide +kernel
theorem dX12_averageSugar_49 : decode cX12_averageSugar 49 = .ok (.ifCond .ne 7, 3) := by decide +kernel
theorem dX12_averageSugar_52 : decode cX12_averageSugar 52 = .ok (.dconst 0, 1) := by decide +kernel
theorem dX12_averageSugar_53 : decode cX12_averageSugar 53 = .ok (.goto 11, 3) := by decide +kernel
theorem dX12_averageSugar_56 : decode cX12_averageSugar 56 = .ok (.iload_n 1, 1) := by decide +kernel
theorem dX12_averageSugar_57 : decode cX12_averageSugar 57 = .ok (.i2d, 1) := by decide +kernel
theorem dX12_averageSugar_58 : decode cX12_averageSugar 58 = .ok (.aload_n 0, 1) := by decide +kernel
theorem dX12_averageSugar_59 : decode cX12_averageSugar 59 = .ok (.invokevirtual 474, 3) := by decide +kernel
theorem dX12_averageSugar_62 : decode cX12_averageSugar 62 = .ok (.i2d, 1) := by decide +kernel
theorem dX12_averageSugar_63 : decode cX12_averageSugar 63 = .ok (.ddiv, 1) := by decide +kernel
theorem dX12_averageSugar_64 : decode cX12_averageSugar 64 = .ok (.dreturn, 1) := by decide +kernel
theorem dX12_deliver_0 : decode cX12_deliver 0 = .ok (.aload_n 0, 1) := by decide +kernel
theorem dX12_deliver_1 : decode cX12_deliver 1 = .ok (.iload_n 1, 1) := by decide +kernel
theorem dX12_deliver_2 : decode cX12_deliver 2 = .ok (.invokevirtual 438, 3) := by decide +kernel
theorem dX12_deliver_5 : decode cX12_deliver 5 = .ok (.istore 4, 2) := by decide +kernel
theorem dX12_deliver_7 : decode cX12_deliver 7 = .ok (.aload_n 0, 1) := by decide +kernel
theorem dX12_deliver_8 : decode cX12_deliver 8 = .ok (.iload_n 2, 1) := by decide +kernel
theorem dX12_deliver_9 : decode cX12_deliver 9 = .ok (.iload_n 3, 1) := by decide +kernel
theorem dX12_deliver_10 : decode cX12_deliver 10 = .ok (.invokevirtual 462, 3) := by decide +kernel
theorem dX12_deliver_13 : decode cX12_deliver 13 = .ok (.istore 5, 2) := by decide +kernel
theorem dX12_deliver_15 : decode cX12_deliver 15 = .ok (.aload_n 0, 1) := by decide +kernel
theorem dX12_deliver_16 : decode cX12_deliver 16 = .ok (.iload 4, 2) := by decide +kernel
theorem dX12_deliver_18 : decode cX12_deliver 18 = .ok (.iload 5, 2) := by decide +kernel
theorem dX12_deliver_20 : decode cX12_deliver 20 = .ok (.iload 4, 2) := by decide +kernel
theorem dX12_deliver_22 : decode cX12_deliver 22 = .ok (.ifCond .eq 22, 3) := by decide +kernel
theorem dX12_deliver_25 : decode cX12_deliver 25 = .ok (.iload 5, 2) := by decide +kernel
theorem dX12_deliver_27 : decode cX12_deliver 27 = .ok (.ifCond .eq 17, 3) := by decide +kernel
theorem dX12_deliver_30 : decode cX12_deliver 30 = .ok (.aload_n 0, 1) := by decide +kernel
theorem dX12_deliver_31 : decode cX12_deliver 31 = .ok (.iload_n 1, 1) := by decide +kernel
theorem dX12_deliver_32 : decode cX12_deliver 32 = .ok (.iload_n 2, 1) := by decide +kernel
theorem dX12_deliver_33 : decode cX12_deliver 33 = .ok (.iload_n 3, 1) := by decide +kernel
theorem dX12_deliver_34 : decode cX12_deliver 34 = .ok (.invokevirtual 323, 3) := by decide +kernel
theorem dX12_deliver_37 : decode cX12_deliver 37 = .ok (.ifCond .ne 7, 3) := by decide +kernel
theorem dX12_deliver_40 : decode cX12_deliver 40 = .ok (.iconst 1, 1) := by decide +kernel
theorem dX12_deliver_41 : decode cX12_deliver 41 = .ok (.goto 4, 3) := by decide +kernel
theorem dX12_deliver_44 : decode cX12_deliver 44 = .ok (.iconst 0, 1) := by decide +kernel
theorem dX12_deliver_45 : decode cX12_deliver 45 = .ok (.invokevirtual 7, 3) := by decide +kernel
theorem dX12_deliver_48 : decode cX12_deliver 48 = .ok (.ifCond .ne 5, 3) := by decide +kernel
theorem dX12_deliver_51 : decode cX12_deliver 51 = .ok (.iconst 0, 1) := by decide +kernel
theorem dX12_deliver_52 : decode cX12_deliver 52 = .ok (.ireturn, 1) := by decide +kernel
theorem dX12_deliver_53 : decode cX12_deliver 53 = .ok (.aload_n 0, 1) := by decide +kernel
theorem dX12_deliver_54 : decode cX12_deliver 54 = .ok (.invokevirtual 409, 3) := by decide +kernel
theorem dX12_deliver_57 : decode cX12_deliver 57 = .ok (.aload_n 0, 1) := by decide +kernel
theorem dX12_deliver_58 : decode cX12_deliver 58 = .ok (.iload_n 1, 1) := by decide +kernel
theorem dX12_deliver_59 : decode cX12_deliver 59 = .ok (.iload_n 2, 1) := by decide +kernel
theorem dX12_deliver_60 : decode cX12_deliver 60 = .ok (.iload_n 3, 1) := by decide +kernel
theorem dX12_deliver_61 : decode cX12_deliver 61 = .ok (.invokevirtual 137, 3) := by decide +kernel
theorem dX12_deliver_64 : decode cX12_deliver 64 = .ok (.ireturn, 1) := by decide +kernel
theorem dX12_setPrice_0 : decode cX12_setPrice 0 = .ok (.aload_n 0, 1) := by decide +kernel
theorem dX12_setPrice_1 : decode cX12_setPrice 1 = .ok (.aload_n 0, 1) := by decide +kernel
theorem dX12_setPrice_2 : decode cX12_setPrice 2 = .ok (.iload_n 1, 1) := by decide +kernel
theorem dX12_setPrice_3 : decode cX12_setPrice 3 = .ok (.iload_n 2, 1) := by decide +kernel
theorem dX12_setPrice_4 : decode cX12_setPrice 4 = .ok (.invokevirtual 417, 3) := by decide +kernel
theorem dX12_setPrice_7 : decode cX12_setPrice 7 = .ok (.iload_n 3, 1) := by decide +kernel
theorem dX12_setPrice_8 : decode cX12_setPrice 8 = .ok (.i2l, 1) := by decide +kernel
theorem dX12_setPrice_9 : decode cX12_setPrice 9 = .ok (.lconst 0, 1) := by decide +kernel
theorem dX12_setPrice_10 : decode cX12_setPrice 10 = .ok (.ldc2_w 480, 3) := by decide +kernel
theorem dX12_setPrice_13 : decode cX12_setPrice 13 = .ok (.invokestatic 282, 3) := by decide +kernel
theorem dX12_setPrice_16 : decode cX12_setPrice 16 = .ok (.invokevirtual 458, 3) := by decide +kernel
theorem dX12_setPrice_19 : decode cX12_setPrice 19 = .ok (.ifCond .ne 5, 3) := by decide +kernel
theorem dX12_setPrice_22 : decode cX12_setPrice 22 = .ok (.iconst 0, 1) := by decide +kernel
theorem dX12_setPrice_23 : decode cX12_setPrice 23 = .ok (.ireturn, 1) := by decide +kernel
theorem dX12_setPrice_24 : decode cX12_setPrice 24 = .ok (.aload_n 0, 1) := by decide +kernel
theorem dX12_setPrice_25 : decode cX12_setPrice 25 = .ok (.invokevirtual 409, 3) := by decide +kernel
theorem dX12_setPrice_28 : decode cX12_setPrice 28 = .ok (.aload_n 0, 1) := by decide +kernel
theorem dX12_setPrice_29 : decode cX12_setPrice 29 = .ok (.iload_n 1, 1) := by decide +kernel
theorem dX12_setPrice_30 : decode cX12_setPrice 30 = .ok (.iload_n 2, 1) := by decide +kernel
theorem dX12_setPrice_31 : decode cX12_setPrice 31 = .ok (.invokevirtual 186, 3) := by decide +kernel
theorem dX12_setPrice_34 : decode cX12_setPrice 34 = .ok (.istore 4, 2) := by decide +kernel
theorem dX12_setPrice_36 : decode cX12_setPrice 36 = .ok (.aload_n 0, 1) := by decide +kernel
theorem dX12_setPrice_37 : decode cX12_setPrice 37 = .ok (.iload_n 1, 1) := by decide +kernel
theorem dX12_setPrice_38 : decode cX12_setPrice 38 = .ok (.iload_n 2, 1) := by decide +kernel
theorem dX12_setPrice_39 : decode cX12_setPrice 39 = .ok (.iload_n 3, 1) := by decide +kernel
theorem dX12_setPrice_40 : decode cX12_setPrice 40 = .ok (.invokevirtual 119, 3) := by decide +kernel
theorem dX12_setPrice_43 : decode cX12_setPrice 43 = .ok (.iload 4, 2) := by decide +kernel
theorem dX12_setPrice_45 : decode cX12_setPrice 45 = .ok (.ireturn, 1) := by decide +kernel
theorem dX12_bottle_0 : decode cX12_bottle 0 = .ok (.aload_n 0, 1) := by decide +kernel
theorem dX12_bottle_1 : decode cX12_bottle 1 = .ok (.iload_n 1, 1) := by decide +kernel
theorem dX12_bottle_2 : decode cX12_bottle 2 = .ok (.invokevirtual 450, 3) := by decide +kernel
theorem dX12_bottle_5 : decode cX12_bottle 5 = .ok (.istore_n 3, 1) := by decide +kernel
theorem dX12_bottle_6 : decode cX12_bottle 6 = .ok (.aload_n 0, 1) := by decide +kernel
theorem dX12_bottle_7 : decode cX12_bottle 7 = .ok (.iload_n 3, 1) := by decide +kernel
theorem dX12_bottle_8 : decode cX12_bottle 8 = .ok (.iload_n 2, 1) := by decide +kernel
theorem dX12_bottle_9 : decode cX12_bottle 9 = .ok (.i2l, 1) := by decide +kernel
theorem dX12_bottle_10 : decode cX12_bottle 10 = .ok (.lconst 1, 1) := by decide +kernel
theorem dX12_bottle_11 : decode cX12_bottle 11 = .ok (.ldc2_w 482, 3) := by decide +kernel
theorem dX12_bottle_14 : decode cX12_bottle 14 = .ok (.invokestatic 282, 3) := by decide +kernel
theorem dX12_bottle_17 : decode cX12_bottle 17 = .ok (.iload_n 3, 1) := by decide +kernel
theorem dX12_bottle_18 : decode cX12_bottle 18 = .ok (.ifCond .eq 16, 3) := by decide +kernel
theorem dX12_bottle_21 : decode cX12_bottle 21 = .ok (.aload_n 0, 1) := by decide +kernel
theorem dX12_bottle_22 : decode cX12_bottle 22 = .ok (.iload_n 1, 1) := by decide +kernel
theorem dX12_bottle_23 : decode cX12_bottle 23 = .ok (.iload_n 2, 1) := by decide +kernel
theorem dX12_bottle_24 : decode cX12_bottle 24 = .ok (.invokevirtual 329, 3) := by decide +kernel
theorem dX12_bottle_27 : decode cX12_bottle 27 = .ok (.ifCond .eq 7, 3) := by decide +kernel
theorem dX12_bottle_30 : decode cX12_bottle 30 = .ok (.iconst 1, 1) := by decide +kernel
theorem dX12_bottle_31 : decode cX12_bottle 31 = .ok (.goto 4, 3) := by decide +kernel
theorem dX12_bottle_34 : decode cX12_bottle 34 = .ok (.iconst 0, 1) := by decide +kernel
theorem dX12_bottle_35 : decode cX12_bottle 35 = .ok (.invokevirtual 7, 3) := by decide +kernel
theorem dX12_bottle_38 : decode cX12_bottle 38 = .ok (.ifCond .ne 5, 3) := by decide +kernel
theorem dX12_bottle_41 : decode cX12_bottle 41 = .ok (.iconst 0, 1) := by decide +kernel
theorem dX12_bottle_42 : decode cX12_bottle 42 = .ok (.ireturn, 1) := by decide +kernel
theorem dX12_bottle_43 : decode cX12_bottle 43 = .ok (.aload_n 0, 1) := by decide +kernel
theorem dX12_bottle_44 : decode cX12_bottle 44 = .ok (.invokevirtual 409, 3) := by decide +kernel
theorem dX12_bottle_47 : decode cX12_bottle 47 = .ok (.aload_n 0, 1) := by decide +kernel
theorem dX12_bottle_48 : decode cX12_bottle 48 = .ok (.iload_n 1, 1) := by decide +kernel
theorem dX12_bottle_49 : decode cX12_bottle 49 = .ok (.iload_n 2, 1) := by decide +kernel
theorem dX12_bottle_50 : decode cX12_bottle 50 = .ok (.invokevirtual 332, 3) := by decide +kernel
theorem dX12_bottle_53 : decode cX12_bottle 53 = .ok (.ireturn, 1) := by decide +kernel
theorem dX12_sell_0 : decode cX12_sell 0 = .ok (.aload_n 0, 1) := by decide +kernel
theorem dX12_sell_1 : decode cX12_sell 1 = .ok (.iload_n 1, 1) := by decide +kernel
theorem dX12_sell_2 : decode cX12_sell 2 = .ok (.invokevirtual 465, 3) := by decide +kernel
theorem dX12_sell_5 : decode cX12_sell 5 = .ok (.istore 4, 2) := by decide +kernel
theorem dX12_sell_7 : decode cX12_sell 7 = .ok (.aload_n 0, 1) := by decide +kernel
theorem dX12_sell_8 : decode cX12_sell 8 = .ok (.iload 4, 2) := by decide +kernel
theorem dX12_sell_10 : decode cX12_sell 10 = .ok (.iload_n 2, 1) := by decide +kernel
theorem dX12_sell_11 : decode cX12_sell 11 = .ok (.i2l, 1) := by decide +kernel
theorem dX12_sell_12 : decode cX12_sell 12 = .ok (.lconst 1, 1) := by decide +kernel
theorem dX12_sell_13 : decode cX12_sell 13 = .ok (.ldc2_w 482, 3) := by decide +kernel
theorem dX12_sell_16 : decode cX12_sell 16 = .ok (.invokestatic 282, 3) := by decide +kernel
theorem dX12_sell_19 : decode cX12_sell 19 = .ok (.ifCond .eq 19, 3) := by decide +kernel
theorem dX12_sell_22 : decode cX12_sell 22 = .ok (.iload_n 3, 1) := by decide +kernel
theorem dX12_sell_23 : decode cX12_sell 23 = .ok (.i2l, 1) := by decide +kernel
theorem dX12_sell_24 : decode cX12_sell 24 = .ok (.lconst 1, 1) := by decide +kernel
theorem dX12_sell_25 : decode cX12_sell 25 = .ok (.ldc2_w 484, 3) := by decide +kernel
theorem dX12_sell_28 : decode cX12_sell 28 = .ok (.invokestatic 282, 3) := by decide +kernel
theorem dX12_sell_31 : decode cX12_sell 31 = .ok (.ifCond .eq 7, 3) := by decide +kernel
theorem dX12_sell_34 : decode cX12_sell 34 = .ok (.iconst 1, 1) := by decide +kernel
theorem dX12_sell_35 : decode cX12_sell 35 = .ok (.goto 4, 3) := by decide +kernel
theorem dX12_sell_38 : decode cX12_sell 38 = .ok (.iconst 0, 1) := by decide +kernel
theorem dX12_sell_39 : decode cX12_sell 39 = .ok (.iload 4, 2) := by decide +kernel
theorem dX12_sell_41 : decode cX12_sell 41 = .ok (.ifCond .eq 17, 3) := by decide +kernel
theorem dX12_sell_44 : decode cX12_sell 44 = .ok (.aload_n 0, 1) := by decide +kernel
theorem dX12_sell_45 : decode cX12_sell 45 = .ok (.iload_n 1, 1) := by decide +kernel
theorem dX12_sell_46 : decode cX12_sell 46 = .ok (.iload_n 2, 1) := by decide +kernel
theorem dX12_sell_47 : decode cX12_sell 47 = .ok (.iload_n 3, 1) := by decide +kernel
theorem dX12_sell_48 : decode cX12_sell 48 = .ok (.invokevirtual 335, 3) := by decide +kernel
theorem dX12_sell_51 : decode cX12_sell 51 = .ok (.ifCond .eq 7, 3) := by decide +kernel
theorem dX12_sell_54 : decode cX12_sell 54 = .ok (.iconst 1, 1) := by decide +kernel
theorem dX12_sell_55 : decode cX12_sell 55 = .ok (.goto 4, 3) := by decide +kernel
theorem dX12_sell_58 : decode cX12_sell 58 = .ok (.iconst 0, 1) := by decide +kernel
theorem dX12_sell_59 : decode cX12_sell 59 = .ok (.invokevirtual 7, 3) := by decide +kernel
theorem dX12_sell_62 : decode cX12_sell 62 = .ok (.ifCond .ne 5, 3) := by decide +kernel
theorem dX12_sell_65 : decode cX12_sell 65 = .ok (.iconst 0, 1) := by decide +kernel
theorem dX12_sell_66 : decode cX12_sell 66 = .ok (.ireturn, 1) := by decide +kernel
theorem dX12_sell_67 : decode cX12_sell 67 = .ok (.aload_n 0, 1) := by decide +kernel
theorem dX12_sell_68 : decode cX12_sell 68 = .ok (.invokevirtual 409, 3) := by decide +kernel
theorem dX12_sell_71 : decode cX12_sell 71 = .ok (.aload_n 0, 1) := by decide +kernel
theorem dX12_sell_72 : decode cX12_sell 72 = .ok (.iload_n 1, 1) := by decide +kernel
theorem dX12_sell_73 : decode cX12_sell 73 = .ok (.iload_n 2, 1) := by decide +kernel
theorem dX12_sell_74 : decode cX12_sell 74 = .ok (.iload_n 3, 1) := by decide +kernel
theorem dX12_sell_75 : decode cX12_sell 75 = .ok (.invokevirtual 339, 3) := by decide +kernel
theorem dX12_sell_78 : decode cX12_sell 78 = .ok (.ireturn, 1) := by decide +kernel
theorem dX12_payLoad_0 : decode cX12_payLoad 0 = .ok (.aload_n 0, 1) := by decide +kernel
theorem dX12_payLoad_1 : decode cX12_payLoad 1 = .ok (.iload_n 1, 1) := by decide +kernel
theorem dX12_payLoad_2 : decode cX12_payLoad 2 = .ok (.invokevirtual 444, 3) := by decide +kernel
theorem dX12_payLoad_5 : decode cX12_payLoad 5 = .ok (.istore_n 2, 1) := by decide +kernel
theorem dX12_payLoad_6 : decode cX12_payLoad 6 = .ok (.aload_n 0, 1) := by decide +kernel
theorem dX12_payLoad_7 : decode cX12_payLoad 7 = .ok (.iload_n 2, 1) := by decide +kernel
theorem dX12_payLoad_8 : decode cX12_payLoad 8 = .ok (.iload_n 2, 1) := by decide +kernel
theorem dX12_payLoad_9 : decode cX12_payLoad 9 = .ok (.ifCond .eq 29, 3) := by decide +kernel
theorem dX12_payLoad_12 : decode cX12_payLoad 12 = .ok (.aload_n 0, 1) := by decide +kernel
theorem dX12_payLoad_13 : decode cX12_payLoad 13 = .ok (.iload_n 1, 1) := by decide +kernel
theorem dX12_payLoad_14 : decode cX12_payLoad 14 = .ok (.invokevirtual 179, 3) := by decide +kernel
theorem dX12_payLoad_17 : decode cX12_payLoad 17 = .ok (.ifCond .eq 21, 3) := by decide +kernel
theorem dX12_payLoad_20 : decode cX12_payLoad 20 = .ok (.aload_n 0, 1) := by decide +kernel
theorem dX12_payLoad_21 : decode cX12_payLoad 21 = .ok (.iload_n 1, 1) := by decide +kernel
theorem dX12_payLoad_22 : decode cX12_payLoad 22 = .ok (.invokevirtual 203, 3) := by decide +kernel
theorem dX12_payLoad_25 : decode cX12_payLoad 25 = .ok (.aload_n 0, 1) := by decide +kernel
theorem dX12_payLoad_26 : decode cX12_payLoad 26 = .ok (.getfield 17, 3) := by decide +kernel
theorem dX12_payLoad_29 : decode cX12_payLoad 29 = .ok (.iconst 2, 1) := by decide +kernel
theorem dX12_payLoad_30 : decode cX12_payLoad 30 = .ok (.iaload, 1) := by decide +kernel
theorem dX12_payLoad_31 : decode cX12_payLoad 31 = .ok (.if_icmp .gt 7, 3) := by decide +kernel
theorem dX12_payLoad_34 : decode cX12_payLoad 34 = .ok (.iconst 1, 1) := by decide +kernel
theorem dX12_payLoad_35 : decode cX12_payLoad 35 = .ok (.goto 4, 3) := by decide +kernel
theorem dX12_payLoad_38 : decode cX12_payLoad 38 = .ok (.iconst 0, 1) := by decide +kernel
theorem dX12_payLoad_39 : decode cX12_payLoad 39 = .ok (.invokevirtual 458, 3) := by decide +kernel
theorem dX12_payLoad_42 : decode cX12_payLoad 42 = .ok (.ifCond .ne 5, 3) := by decide +kernel
theorem dX12_payLoad_45 : decode cX12_payLoad 45 = .ok (.iconst 0, 1) := by decide +kernel
theorem dX12_payLoad_46 : decode cX12_payLoad 46 = .ok (.ireturn, 1) := by decide +kernel
theorem dX12_payLoad_47 : decode cX12_payLoad 47 = .ok (.aload_n 0, 1) := by decide +kernel
theorem dX12_payLoad_48 : decode cX12_payLoad 48 = .ok (.invokevirtual 409, 3) := by decide +kernel
theorem dX12_payLoad_51 : decode cX12_payLoad 51 = .ok (.aload_n 0, 1) := by decide +kernel
theorem dX12_payLoad_52 : decode cX12_payLoad 52 = .ok (.iload_n 1, 1) := by decide +kernel
theorem dX12_payLoad_53 : decode cX12_payLoad 53 = .ok (.invokevirtual 215, 3) := by decide +kernel
theorem dX12_payLoad_56 : decode cX12_payLoad 56 = .ok (.ireturn, 1) := by decide +kernel
theorem dX12_payGrower_0 : decode cX12_payGrower 0 = .ok (.aload_n 0, 1) := by decide +kernel
theorem dX12_payGrower_1 : decode cX12_payGrower 1 = .ok (.iload_n 1, 1) := by decide +kernel
theorem dX12_payGrower_2 : decode cX12_payGrower 2 = .ok (.invokevirtual 432, 3) := by decide +kernel
theorem dX12_payGrower_5 : decode cX12_payGrower 5 = .ok (.istore_n 2, 1) := by decide +kernel
theorem dX12_payGrower_6 : decode cX12_payGrower 6 = .ok (.aload_n 0, 1) := by decide +kernel
theorem dX12_payGrower_7 : decode cX12_payGrower 7 = .ok (.iload_n 2, 1) := by decide +kernel
theorem dX12_payGrower_8 : decode cX12_payGrower 8 = .ok (.iload_n 2, 1) := by decide +kernel
theorem dX12_payGrower_9 : decode cX12_payGrower 9 = .ok (.ifCond .eq 15, 3) := by decide +kernel
theorem dX12_payGrower_12 : decode cX12_payGrower 12 = .ok (.aload_n 0, 1) := by decide +kernel
theorem dX12_payGrower_13 : decode cX12_payGrower 13 = .ok (.iload_n 1, 1) := by decide +kernel
theorem dX12_payGrower_14 : decode cX12_payGrower 14 = .ok (.invokevirtual 342, 3) := by decide +kernel
theorem dX12_payGrower_17 : decode cX12_payGrower 17 = .ok (.ifCond .eq 7, 3) := by decide +kernel
theorem dX12_payGrower_20 : decode cX12_payGrower 20 = .ok (.iconst 1, 1) := by decide +kernel
theorem dX12_payGrower_21 : decode cX12_payGrower 21 = .ok (.goto 4, 3) := by decide +kernel
theorem dX12_payGrower_24 : decode cX12_payGrower 24 = .ok (.iconst 0, 1) := by decide +kernel
theorem dX12_payGrower_25 : decode cX12_payGrower 25 = .ok (.invokevirtual 458, 3) := by decide +kernel
theorem dX12_payGrower_28 : decode cX12_payGrower 28 = .ok (.ifCond .ne 5, 3) := by decide +kernel
theorem dX12_payGrower_31 : decode cX12_payGrower 31 = .ok (.iconst 0, 1) := by decide +kernel
theorem dX12_payGrower_32 : decode cX12_payGrower 32 = .ok (.ireturn, 1) := by decide +kernel
theorem dX12_payGrower_33 : decode cX12_payGrower 33 = .ok (.aload_n 0, 1) := by decide +kernel
theorem dX12_payGrower_34 : decode cX12_payGrower 34 = .ok (.invokevirtual 409, 3) := by decide +kernel
theorem dX12_payGrower_37 : decode cX12_payGrower 37 = .ok (.aload_n 0, 1) := by decide +kernel
theorem dX12_payGrower_38 : decode cX12_payGrower 38 = .ok (.iload_n 1, 1) := by decide +kernel
theorem dX12_payGrower_39 : decode cX12_payGrower 39 = .ok (.invokevirtual 345, 3) := by decide +kernel
theorem dX12_payGrower_42 : decode cX12_payGrower 42 = .ok (.ireturn, 1) := by decide +kernel
theorem dX12_pump_0 : decode cX12_pump 0 = .ok (.aload_n 0, 1) := by decide +kernel
theorem dX12_pump_1 : decode cX12_pump 1 = .ok (.iload_n 1, 1) := by decide +kernel
theorem dX12_pump_2 : decode cX12_pump 2 = .ok (.invokevirtual 450, 3) := by decide +kernel
theorem dX12_pump_5 : decode cX12_pump 5 = .ok (.ifCond .eq 15, 3) := by decide +kernel
theorem dX12_pump_8 : decode cX12_pump 8 = .ok (.aload_n 0, 1) := by decide +kernel
theorem dX12_pump_9 : decode cX12_pump 9 = .ok (.iload_n 2, 1) := by decide +kernel
theorem dX12_pump_10 : decode cX12_pump 10 = .ok (.invokevirtual 450, 3) := by decide +kernel
theorem dX12_pump_13 : decode cX12_pump 13 = .ok (.ifCond .eq 7, 3) := by decide +kernel
theorem dX12_pump_16 : decode cX12_pump 16 = .ok (.iconst 1, 1) := by decide +kernel
theorem dX12_pump_17 : decode cX12_pump 17 = .ok (.goto 4, 3) := by decide +kernel
theorem dX12_pump_20 : decode cX12_pump 20 = .ok (.iconst 0, 1) := by decide +kernel
theorem dX12_pump_21 : decode cX12_pump 21 = .ok (.istore_n 3, 1) := by decide +kernel
theorem dX12_pump_22 : decode cX12_pump 22 = .ok (.aload_n 0, 1) := by decide +kernel
theorem dX12_pump_23 : decode cX12_pump 23 = .ok (.iload_n 3, 1) := by decide +kernel
theorem dX12_pump_24 : decode cX12_pump 24 = .ok (.iload_n 1, 1) := by decide +kernel
theorem dX12_pump_25 : decode cX12_pump 25 = .ok (.iload_n 2, 1) := by decide +kernel
theorem dX12_pump_26 : decode cX12_pump 26 = .ok (.if_icmp .eq 7, 3) := by decide +kernel
theorem dX12_pump_29 : decode cX12_pump 29 = .ok (.iconst 1, 1) := by decide +kernel
theorem dX12_pump_30 : decode cX12_pump 30 = .ok (.goto 4, 3) := by decide +kernel
theorem dX12_pump_33 : decode cX12_pump 33 = .ok (.iconst 0, 1) := by decide +kernel
theorem dX12_pump_34 : decode cX12_pump 34 = .ok (.iload_n 3, 1) := by decide +kernel
theorem dX12_pump_35 : decode cX12_pump 35 = .ok (.ifCond .eq 16, 3) := by decide +kernel
theorem dX12_pump_38 : decode cX12_pump 38 = .ok (.aload_n 0, 1) := by decide +kernel
theorem dX12_pump_39 : decode cX12_pump 39 = .ok (.iload_n 1, 1) := by decide +kernel
theorem dX12_pump_40 : decode cX12_pump 40 = .ok (.iload_n 2, 1) := by decide +kernel
theorem dX12_pump_41 : decode cX12_pump 41 = .ok (.invokevirtual 348, 3) := by decide +kernel
theorem dX12_pump_44 : decode cX12_pump 44 = .ok (.ifCond .eq 7, 3) := by decide +kernel
theorem dX12_pump_47 : decode cX12_pump 47 = .ok (.iconst 1, 1) := by decide +kernel
theorem dX12_pump_48 : decode cX12_pump 48 = .ok (.goto 4, 3) := by decide +kernel
theorem dX12_pump_51 : decode cX12_pump 51 = .ok (.iconst 0, 1) := by decide +kernel
theorem dX12_pump_52 : decode cX12_pump 52 = .ok (.invokevirtual 7, 3) := by decide +kernel
theorem dX12_pump_55 : decode cX12_pump 55 = .ok (.ifCond .ne 5, 3) := by decide +kernel
theorem dX12_pump_58 : decode cX12_pump 58 = .ok (.iconst 0, 1) := by decide +kernel
theorem dX12_pump_59 : decode cX12_pump 59 = .ok (.ireturn, 1) := by decide +kernel
theorem dX12_pump_60 : decode cX12_pump 60 = .ok (.aload_n 0, 1) := by decide +kernel
theorem dX12_pump_61 : decode cX12_pump 61 = .ok (.invokevirtual 409, 3) := by decide +kernel
theorem dX12_pump_64 : decode cX12_pump 64 = .ok (.aload_n 0, 1) := by decide +kernel
theorem dX12_pump_65 : decode cX12_pump 65 = .ok (.iload_n 1, 1) := by decide +kernel
theorem dX12_pump_66 : decode cX12_pump 66 = .ok (.iload_n 2, 1) := by decide +kernel
theorem dX12_pump_67 : decode cX12_pump 67 = .ok (.invokevirtual 351, 3) := by decide +kernel
theorem dX12_pump_70 : decode cX12_pump 70 = .ok (.ireturn, 1) := by decide +kernel
theorem dX12_save_0 : decode cX12_save 0 = .ok (.aload_n 0, 1) := by decide +kernel
theorem dX12_save_1 : decode cX12_save 1 = .ok (.iload_n 1, 1) := by decide +kernel
theorem dX12_save_2 : decode cX12_save 2 = .ok (.i2l, 1) := by decide +kernel
theorem dX12_save_3 : decode cX12_save 3 = .ok (.lconst 0, 1) := by decide +kernel
theorem dX12_save_4 : decode cX12_save 4 = .ok (.lconst 1, 1) := by decide +kernel
theorem dX12_save_5 : decode cX12_save 5 = .ok (.invokestatic 282, 3) := by decide +kernel
theorem dX12_save_8 : decode cX12_save 8 = .ok (.invokevirtual 396, 3) := by decide +kernel
theorem dX12_save_11 : decode cX12_save 11 = .ok (.ifCond .ne 5, 3) := by decide +kernel
theorem dX12_save_14 : decode cX12_save 14 = .ok (.iconst 0, 1) := by decide +kernel
theorem dX12_save_15 : decode cX12_save 15 = .ok (.ireturn, 1) := by decide +kernel
theorem dX12_save_16 : decode cX12_save 16 = .ok (.iconst 0, 1) := by decide +kernel
theorem dX12_save_17 : decode cX12_save 17 = .ok (.istore_n 2, 1) := by decide +kernel
theorem dX12_save_18 : decode cX12_save 18 = .ok (.iload_n 2, 1) := by decide +kernel
theorem dX12_save_19 : decode cX12_save 19 = .ok (.sipush 264, 3) := by decide +kernel
theorem dX12_save_22 : decode cX12_save 22 = .ok (.if_icmp .ge 27, 3) := by decide +kernel
theorem dX12_save_25 : decode cX12_save 25 = .ok (.aload_n 0, 1) := by decide +kernel
theorem dX12_save_26 : decode cX12_save 26 = .ok (.getfield 99, 3) := by decide +kernel
theorem dX12_save_29 : decode cX12_save 29 = .ok (.sipush 264, 3) := by decide +kernel
theorem dX12_save_32 : decode cX12_save 32 = .ok (.iload_n 1, 1) := by decide +kernel
theorem dX12_save_33 : decode cX12_save 33 = .ok (.imul, 1) := by decide +kernel
theorem dX12_save_34 : decode cX12_save 34 = .ok (.iload_n 2, 1) := by decide +kernel
theorem dX12_save_35 : decode cX12_save 35 = .ok (.iadd, 1) := by decide +kernel
theorem dX12_save_36 : decode cX12_save 36 = .ok (.aload_n 0, 1) := by decide +kernel
theorem dX12_save_37 : decode cX12_save 37 = .ok (.getfield 17, 3) := by decide +kernel
theorem dX12_save_40 : decode cX12_save 40 = .ok (.iload_n 2, 1) := by decide +kernel
theorem dX12_save_41 : decode cX12_save 41 = .ok (.iaload, 1) := by decide +kernel
theorem dX12_save_42 : decode cX12_save 42 = .ok (.iastore, 1) := by decide +kernel
theorem dX12_save_43 : decode cX12_save 43 = .ok (.iinc 2 1, 3) := by decide +kernel
theorem dX12_save_46 : decode cX12_save 46 = .ok (.goto (-28), 3) := by decide +kernel
theorem dX12_save_49 : decode cX12_save 49 = .ok (.aload_n 0, 1) := by decide +kernel
theorem dX12_save_50 : decode cX12_save 50 = .ok (.dup, 1) := by decide +kernel
theorem dX12_save_51 : decode cX12_save 51 = .ok (.getfield 486, 3) := by decide +kernel
theorem dX12_save_54 : decode cX12_save 54 = .ok (.iconst 1, 1) := by decide +kernel
theorem dX12_save_55 : decode cX12_save 55 = .ok (.iload_n 1, 1) := by decide +kernel
theorem dX12_save_56 : decode cX12_save 56 = .ok (.ishl, 1) := by decide +kernel
theorem dX12_save_57 : decode cX12_save 57 = .ok (.ior, 1) := by decide +kernel
theorem dX12_save_58 : decode cX12_save 58 = .ok (.putfield 486, 3) := by decide +kernel
theorem dX12_save_61 : decode cX12_save 61 = .ok (.aload_n 0, 1) := by decide +kernel
theorem dX12_save_62 : decode cX12_save 62 = .ok (.getfield 17, 3) := by decide +kernel
theorem dX12_save_65 : decode cX12_save 65 = .ok (.iconst 2, 1) := by decide +kernel
theorem dX12_save_66 : decode cX12_save 66 = .ok (.iaload, 1) := by decide +kernel
theorem dX12_save_67 : decode cX12_save 67 = .ok (.ireturn, 1) := by decide +kernel
theorem dX12_restore_0 : decode cX12_restore 0 = .ok (.iload_n 1, 1) := by decide +kernel
theorem dX12_restore_1 : decode cX12_restore 1 = .ok (.i2l, 1) := by decide +kernel
theorem dX12_restore_2 : decode cX12_restore 2 = .ok (.lconst 0, 1) := by decide +kernel
theorem dX12_restore_3 : decode cX12_restore 3 = .ok (.lconst 1, 1) := by decide +kernel
theorem dX12_restore_4 : decode cX12_restore 4 = .ok (.invokestatic 282, 3) := by decide +kernel
theorem dX12_restore_7 : decode cX12_restore 7 = .ok (.istore_n 2, 1) := by decide +kernel
theorem dX12_restore_8 : decode cX12_restore 8 = .ok (.aload_n 0, 1) := by decide +kernel
theorem dX12_restore_9 : decode cX12_restore 9 = .ok (.iload_n 2, 1) := by decide +kernel
theorem dX12_restore_10 : decode cX12_restore 10 = .ok (.iload_n 2, 1) := by decide +kernel
theorem dX12_restore_11 : decode cX12_restore 11 = .ok (.ifCond .eq 19, 3) := by decide +kernel
theorem dX12_restore_14 : decode cX12_restore 14 = .ok (.aload_n 0, 1) := by decide +kernel
theorem dX12_restore_15 : decode cX12_restore 15 = .ok (.getfield 486, 3) := by decide +kernel
theorem dX12_restore_18 : decode cX12_restore 18 = .ok (.iload_n 1, 1) := by decide +kernel
theorem dX12_restore_19 : decode cX12_restore 19 = .ok (.ishr, 1) := by decide +kernel
theorem dX12_restore_20 : decode cX12_restore 20 = .ok (.iconst 1, 1) := by decide +kernel
theorem dX12_restore_21 : decode cX12_restore 21 = .ok (.iand, 1) := by decide +kernel
theorem dX12_restore_22 : decode cX12_restore 22 = .ok (.iconst 1, 1) := by decide +kernel
theorem dX12_restore_23 : decode cX12_restore 23 = .ok (.if_icmp .ne 7, 3) := by decide +kernel
theorem dX12_restore_26 : decode cX12_restore 26 = .ok (.iconst 1, 1) := by decide +kernel
theorem dX12_restore_27 : decode cX12_restore 27 = .ok (.goto 4, 3) := by decide +kernel
theorem dX12_restore_30 : decode cX12_restore 30 = .ok (.iconst 0, 1) := by decide +kernel
theorem dX12_restore_31 : decode cX12_restore 31 = .ok (.invokevirtual 458, 3) := by decide +kernel
theorem dX12_restore_34 : decode cX12_restore 34 = .ok (.ifCond .ne 5, 3) := by decide +kernel
theorem dX12_restore_37 : decode cX12_restore 37 = .ok (.iconst 0, 1) := by decide +kernel
theorem dX12_restore_38 : decode cX12_restore 38 = .ok (.ireturn, 1) := by decide +kernel
theorem dX12_restore_39 : decode cX12_restore 39 = .ok (.aload_n 0, 1) := by decide +kernel
theorem dX12_restore_40 : decode cX12_restore 40 = .ok (.invokevirtual 409, 3) := by decide +kernel
theorem dX12_restore_43 : decode cX12_restore 43 = .ok (.iconst 0, 1) := by decide +kernel
theorem dX12_restore_44 : decode cX12_restore 44 = .ok (.istore_n 3, 1) := by decide +kernel
theorem dX12_restore_45 : decode cX12_restore 45 = .ok (.iload_n 3, 1) := by decide +kernel
theorem dX12_restore_46 : decode cX12_restore 46 = .ok (.sipush 264, 3) := by decide +kernel
theorem dX12_restore_49 : decode cX12_restore 49 = .ok (.if_icmp .ge 27, 3) := by decide +kernel
theorem dX12_restore_52 : decode cX12_restore 52 = .ok (.aload_n 0, 1) := by decide +kernel
theorem dX12_restore_53 : decode cX12_restore 53 = .ok (.getfield 17, 3) := by decide +kernel
theorem dX12_restore_56 : decode cX12_restore 56 = .ok (.iload_n 3, 1) := by decide +kernel
theorem dX12_restore_57 : decode cX12_restore 57 = .ok (.aload_n 0, 1) := by decide +kernel
theorem dX12_restore_58 : decode cX12_restore 58 = .ok (.getfield 99, 3) := by decide +kernel
theorem dX12_restore_61 : decode cX12_restore 61 = .ok (.sipush 264, 3) := by decide +kernel
theorem dX12_restore_64 : decode cX12_restore 64 = .ok (.iload_n 1, 1) := by decide +kernel
theorem dX12_restore_65 : decode cX12_restore 65 = .ok (.imul, 1) := by decide +kernel
theorem dX12_restore_66 : decode cX12_restore 66 = .ok (.iload_n 3, 1) := by decide +kernel
theorem dX12_restore_67 : decode cX12_restore 67 = .ok (.iadd, 1) := by decide +kernel
theorem dX12_restore_68 : decode cX12_restore 68 = .ok (.iaload, 1) := by decide +kernel
theorem dX12_restore_69 : decode cX12_restore 69 = .ok (.iastore, 1) := by decide +kernel
theorem dX12_restore_70 : decode cX12_restore 70 = .ok (.iinc 3 1, 3) := by decide +kernel
theorem dX12_restore_73 : decode cX12_restore 73 = .ok (.goto (-28), 3) := by decide +kernel
theorem dX12_restore_76 : decode cX12_restore 76 = .ok (.aload_n 0, 1) := by decide +kernel
theorem dX12_restore_77 : decode cX12_restore 77 = .ok (.getfield 17, 3) := by decide +kernel
theorem dX12_restore_80 : decode cX12_restore 80 = .ok (.iconst 2, 1) := by decide +kernel
theorem dX12_restore_81 : decode cX12_restore 81 = .ok (.iaload, 1) := by decide +kernel
theorem dX12_restore_82 : decode cX12_restore 82 = .ok (.ireturn, 1) := by decide +kernel
theorem dX12_undo_0 : decode cX12_undo 0 = .ok (.aload_n 0, 1) := by decide +kernel
theorem dX12_undo_1 : decode cX12_undo 1 = .ok (.aload_n 0, 1) := by decide +kernel
theorem dX12_undo_2 : decode cX12_undo 2 = .ok (.getfield 393, 3) := by decide +kernel
theorem dX12_undo_5 : decode cX12_undo 5 = .ok (.ifCond .le 7, 3) := by decide +kernel
theorem dX12_undo_8 : decode cX12_undo 8 = .ok (.iconst 1, 1) := by decide +kernel
theorem dX12_undo_9 : decode cX12_undo 9 = .ok (.goto 4, 3) := by decide +kernel
theorem dX12_undo_12 : decode cX12_undo 12 = .ok (.iconst 0, 1) := by decide +kernel
theorem dX12_undo_13 : decode cX12_undo 13 = .ok (.invokevirtual 396, 3) := by decide +kernel
theorem dX12_undo_16 : decode cX12_undo 16 = .ok (.ifCond .ne 5, 3) := by decide +kernel
theorem dX12_undo_19 : decode cX12_undo 19 = .ok (.iconst 0, 1) := by decide +kernel
theorem dX12_undo_20 : decode cX12_undo 20 = .ok (.ireturn, 1) := by decide +kernel
theorem dX12_undo_21 : decode cX12_undo 21 = .ok (.aload_n 0, 1) := by decide +kernel
theorem dX12_undo_22 : decode cX12_undo 22 = .ok (.dup, 1) := by decide +kernel
theorem dX12_undo_23 : decode cX12_undo 23 = .ok (.getfield 393, 3) := by decide +kernel
theorem dX12_undo_26 : decode cX12_undo 26 = .ok (.iconst 1, 1) := by decide +kernel
theorem dX12_undo_27 : decode cX12_undo 27 = .ok (.isub, 1) := by decide +kernel
theorem dX12_undo_28 : decode cX12_undo 28 = .ok (.putfield 393, 3) := by decide +kernel
theorem dX12_undo_31 : decode cX12_undo 31 = .ok (.iconst 0, 1) := by decide +kernel
theorem dX12_undo_32 : decode cX12_undo 32 = .ok (.istore_n 1, 1) := by decide +kernel
theorem dX12_undo_33 : decode cX12_undo 33 = .ok (.iload_n 1, 1) := by decide +kernel
theorem dX12_undo_34 : decode cX12_undo 34 = .ok (.sipush 264, 3) := by decide +kernel
theorem dX12_undo_37 : decode cX12_undo 37 = .ok (.if_icmp .ge 30, 3) := by decide +kernel
theorem dX12_undo_40 : decode cX12_undo 40 = .ok (.aload_n 0, 1) := by decide +kernel
theorem dX12_undo_41 : decode cX12_undo 41 = .ok (.getfield 17, 3) := by decide +kernel
theorem dX12_undo_44 : decode cX12_undo 44 = .ok (.iload_n 1, 1) := by decide +kernel
theorem dX12_undo_45 : decode cX12_undo 45 = .ok (.aload_n 0, 1) := by decide +kernel
theorem dX12_undo_46 : decode cX12_undo 46 = .ok (.getfield 96, 3) := by decide +kernel
theorem dX12_undo_49 : decode cX12_undo 49 = .ok (.sipush 264, 3) := by decide +kernel
theorem dX12_undo_52 : decode cX12_undo 52 = .ok (.aload_n 0, 1) := by decide +kernel
theorem dX12_undo_53 : decode cX12_undo 53 = .ok (.getfield 393, 3) := by decide +kernel
theorem dX12_undo_56 : decode cX12_undo 56 = .ok (.imul, 1) := by decide +kernel
theorem dX12_undo_57 : decode cX12_undo 57 = .ok (.iload_n 1, 1) := by decide +kernel
theorem dX12_undo_58 : decode cX12_undo 58 = .ok (.iadd, 1) := by decide +kernel
theorem dX12_undo_59 : decode cX12_undo 59 = .ok (.iaload, 1) := by decide +kernel
theorem dX12_undo_60 : decode cX12_undo 60 = .ok (.iastore, 1) := by decide +kernel
theorem dX12_undo_61 : decode cX12_undo 61 = .ok (.iinc 1 1, 3) := by decide +kernel
theorem dX12_undo_64 : decode cX12_undo 64 = .ok (.goto (-31), 3) := by decide +kernel
theorem dX12_undo_67 : decode cX12_undo 67 = .ok (.aload_n 0, 1) := by decide +kernel
theorem dX12_undo_68 : decode cX12_undo 68 = .ok (.getfield 393, 3) := by decide +kernel
theorem dX12_undo_71 : decode cX12_undo 71 = .ok (.ireturn, 1) := by decide +kernel
theorem dX12_put_0 : decode cX12_put 0 = .ok (.aload_n 0, 1) := by decide +kernel
theorem dX12_put_1 : decode cX12_put 1 = .ok (.getfield 105, 3) := by decide +kernel
theorem dX12_put_4 : decode cX12_put 4 = .ok (.aload_n 0, 1) := by decide +kernel
theorem dX12_put_5 : decode cX12_put 5 = .ok (.getfield 489, 3) := by decide +kernel
theorem dX12_put_8 : decode cX12_put 8 = .ok (.iload_n 1, 1) := by decide +kernel
theorem dX12_put_9 : decode cX12_put 9 = .ok (.iastore, 1) := by decide +kernel
theorem dX12_put_10 : decode cX12_put 10 = .ok (.aload_n 0, 1) := by decide +kernel
theorem dX12_put_11 : decode cX12_put 11 = .ok (.dup, 1) := by decide +kernel
theorem dX12_put_12 : decode cX12_put 12 = .ok (.getfield 489, 3) := by decide +kernel
theorem dX12_put_15 : decode cX12_put 15 = .ok (.iconst 1, 1) := by decide +kernel
theorem dX12_put_16 : decode cX12_put 16 = .ok (.iadd, 1) := by decide +kernel
theorem dX12_put_17 : decode cX12_put 17 = .ok (.putfield 489, 3) := by decide +kernel
theorem dX12_put_20 : decode cX12_put 20 = .ok (.return_, 1) := by decide +kernel
theorem dX12_putNumber_0 : decode cX12_putNumber 0 = .ok (.iconst 1, 1) := by decide +kernel
theorem dX12_putNumber_1 : decode cX12_putNumber 1 = .ok (.istore_n 2, 1) := by decide +kernel
theorem dX12_putNumber_2 : decode cX12_putNumber 2 = .ok (.iload_n 2, 1) := by decide +kernel
theorem dX12_putNumber_3 : decode cX12_putNumber 3 = .ok (.iload_n 1, 1) := by decide +kernel
theorem dX12_putNumber_4 : decode cX12_putNumber 4 = .ok (.bipush 10, 2) := by decide +kernel
theorem dX12_putNumber_6 : decode cX12_putNumber 6 = .ok (.idiv, 1) := by decide +kernel
theorem dX12_putNumber_7 : decode cX12_putNumber 7 = .ok (.if_icmp .gt 11, 3) := by decide +kernel
theorem dX12_putNumber_10 : decode cX12_putNumber 10 = .ok (.iload_n 2, 1) := by decide +kernel
theorem dX12_putNumber_11 : decode cX12_putNumber 11 = .ok (.bipush 10, 2) := by decide +kernel
theorem dX12_putNumber_13 : decode cX12_putNumber 13 = .ok (.imul, 1) := by decide +kernel
theorem dX12_putNumber_14 : decode cX12_putNumber 14 = .ok (.istore_n 2, 1) := by decide +kernel
theorem dX12_putNumber_15 : decode cX12_putNumber 15 = .ok (.goto (-13), 3) := by decide +kernel
theorem dX12_putNumber_18 : decode cX12_putNumber 18 = .ok (.iload_n 2, 1) := by decide +kernel
theorem dX12_putNumber_19 : decode cX12_putNumber 19 = .ok (.ifCond .le 24, 3) := by decide +kernel
theorem dX12_putNumber_22 : decode cX12_putNumber 22 = .ok (.aload_n 0, 1) := by decide +kernel
theorem dX12_putNumber_23 : decode cX12_putNumber 23 = .ok (.bipush 48, 2) := by decide +kernel
theorem dX12_putNumber_25 : decode cX12_putNumber 25 = .ok (.iload_n 1, 1) := by decide +kernel
theorem dX12_putNumber_26 : decode cX12_putNumber 26 = .ok (.iload_n 2, 1) := by decide +kernel
theorem dX12_putNumber_27 : decode cX12_putNumber 27 = .ok (.idiv, 1) := by decide +kernel
theorem dX12_putNumber_28 : decode cX12_putNumber 28 = .ok (.bipush 10, 2) := by decide +kernel
theorem dX12_putNumber_30 : decode cX12_putNumber 30 = .ok (.irem, 1) := by decide +kernel
theorem dX12_putNumber_31 : decode cX12_putNumber 31 = .ok (.iadd, 1) := by decide +kernel
theorem dX12_putNumber_32 : decode cX12_putNumber 32 = .ok (.invokevirtual 492, 3) := by decide +kernel
theorem dX12_putNumber_35 : decode cX12_putNumber 35 = .ok (.iload_n 2, 1) := by decide +kernel
theorem dX12_putNumber_36 : decode cX12_putNumber 36 = .ok (.bipush 10, 2) := by decide +kernel
theorem dX12_putNumber_38 : decode cX12_putNumber 38 = .ok (.idiv, 1) := by decide +kernel
theorem dX12_putNumber_39 : decode cX12_putNumber 39 = .ok (.istore_n 2, 1) := by decide +kernel
theorem dX12_putNumber_40 : decode cX12_putNumber 40 = .ok (.goto (-22), 3) := by decide +kernel
theorem dX12_putNumber_43 : decode cX12_putNumber 43 = .ok (.return_, 1) := by decide +kernel
theorem dX12_putGap_0 : decode cX12_putGap 0 = .ok (.iload_n 1, 1) := by decide +kernel
theorem dX12_putGap_1 : decode cX12_putGap 1 = .ok (.ifCond .ne 9, 3) := by decide +kernel
theorem dX12_putGap_4 : decode cX12_putGap 4 = .ok (.aload_n 0, 1) := by decide +kernel
theorem dX12_putGap_5 : decode cX12_putGap 5 = .ok (.bipush 32, 2) := by decide +kernel
theorem dX12_putGap_7 : decode cX12_putGap 7 = .ok (.invokevirtual 492, 3) := by decide +kernel
theorem dX12_putGap_10 : decode cX12_putGap 10 = .ok (.return_, 1) := by decide +kernel
theorem dX12_letterOf_0 : decode cX12_letterOf 0 = .ok (.iload_n 0, 1) := by decide +kernel
theorem dX12_letterOf_1 : decode cX12_letterOf 1 = .ok (.istore_n 3, 1) := by decide +kernel
theorem dX12_letterOf_2 : decode cX12_letterOf 2 = .ok (.iload_n 1, 1) := by decide +kernel
theorem dX12_letterOf_3 : decode cX12_letterOf 3 = .ok (.iconst 1, 1) := by decide +kernel
theorem dX12_letterOf_4 : decode cX12_letterOf 4 = .ok (.isub, 1) := by decide +kernel
theorem dX12_letterOf_5 : decode cX12_letterOf 5 = .ok (.istore 4, 2) := by decide +kernel
theorem dX12_letterOf_7 : decode cX12_letterOf 7 = .ok (.iload 4, 2) := by decide +kernel
theorem dX12_letterOf_9 : decode cX12_letterOf 9 = .ok (.iload_n 2, 1) := by decide +kernel
theorem dX12_letterOf_10 : decode cX12_letterOf 10 = .ok (.if_icmp .le 14, 3) := by decide +kernel
theorem dX12_letterOf_13 : decode cX12_letterOf 13 = .ok (.iload_n 3, 1) := by decide +kernel
theorem dX12_letterOf_14 : decode cX12_letterOf 14 = .ok (.bipush 27, 2) := by decide +kernel
theorem dX12_letterOf_16 : decode cX12_letterOf 16 = .ok (.idiv, 1) := by decide +kernel
theorem dX12_letterOf_17 : decode cX12_letterOf 17 = .ok (.istore_n 3, 1) := by decide +kernel
theorem dX12_letterOf_18 : decode cX12_letterOf 18 = .ok (.iinc 4 (-1), 3) := by decide +kernel
theorem dX12_letterOf_21 : decode cX12_letterOf 21 = .ok (.goto (-14), 3) := by decide +kernel
theorem dX12_letterOf_24 : decode cX12_letterOf 24 = .ok (.bipush 97, 2) := by decide +kernel
theorem dX12_letterOf_26 : decode cX12_letterOf 26 = .ok (.iload_n 3, 1) := by decide +kernel
theorem dX12_letterOf_27 : decode cX12_letterOf 27 = .ok (.bipush 27, 2) := by decide +kernel
theorem dX12_letterOf_29 : decode cX12_letterOf 29 = .ok (.irem, 1) := by decide +kernel
theorem dX12_letterOf_30 : decode cX12_letterOf 30 = .ok (.iadd, 1) := by decide +kernel
theorem dX12_letterOf_31 : decode cX12_letterOf 31 = .ok (.iconst 1, 1) := by decide +kernel
theorem dX12_letterOf_32 : decode cX12_letterOf 32 = .ok (.isub, 1) := by decide +kernel
theorem dX12_letterOf_33 : decode cX12_letterOf 33 = .ok (.ireturn, 1) := by decide +kernel
theorem dX12_putVariety_0 : decode cX12_putVariety 0 = .ok (.bipush 16, 2) := by decide +kernel
theorem dX12_putVariety_2 : decode cX12_putVariety 2 = .ok (.bipush 6, 2) := by decide +kernel
theorem dX12_putVariety_4 : decode cX12_putVariety 4 = .ok (.iload_n 1, 1) := by decide +kernel
theorem dX12_putVariety_5 : decode cX12_putVariety 5 = .ok (.imul, 1) := by decide +kernel
theorem dX12_putVariety_6 : decode cX12_putVariety 6 = .ok (.iadd, 1) := by decide +kernel
theorem dX12_putVariety_7 : decode cX12_putVariety 7 = .ok (.istore_n 2, 1) := by decide +kernel
theorem dX12_putVariety_8 : decode cX12_putVariety 8 = .ok (.aload_n 0, 1) := by decide +kernel
theorem dX12_putVariety_9 : decode cX12_putVariety 9 = .ok (.bipush 58, 2) := by decide +kernel
theorem dX12_putVariety_11 : decode cX12_putVariety 11 = .ok (.invokevirtual 492, 3) := by decide +kernel
theorem dX12_putVariety_14 : decode cX12_putVariety 14 = .ok (.iconst 0, 1) := by decide +kernel
theorem dX12_putVariety_15 : decode cX12_putVariety 15 = .ok (.istore_n 3, 1) := by decide +kernel
theorem dX12_putVariety_16 : decode cX12_putVariety 16 = .ok (.iload_n 3, 1) := by decide +kernel
theorem dX12_putVariety_17 : decode cX12_putVariety 17 = .ok (.aload_n 0, 1) := by decide +kernel
theorem dX12_putVariety_18 : decode cX12_putVariety 18 = .ok (.getfield 17, 3) := by decide +kernel
theorem dX12_putVariety_21 : decode cX12_putVariety 21 = .ok (.iload_n 2, 1) := by decide +kernel
theorem dX12_putVariety_22 : decode cX12_putVariety 22 = .ok (.iconst 1, 1) := by decide +kernel
theorem dX12_putVariety_23 : decode cX12_putVariety 23 = .ok (.iadd, 1) := by decide +kernel
theorem dX12_putVariety_24 : decode cX12_putVariety 24 = .ok (.iaload, 1) := by decide +kernel
theorem dX12_putVariety_25 : decode cX12_putVariety 25 = .ok (.if_icmp .ge 33, 3) := by decide +kernel
theorem dX12_putVariety_28 : decode cX12_putVariety 28 = .ok (.aload_n 0, 1) := by decide +kernel
theorem dX12_putVariety_29 : decode cX12_putVariety 29 = .ok (.aload_n 0, 1) := by decide +kernel
theorem dX12_putVariety_30 : decode cX12_putVariety 30 = .ok (.getfield 17, 3) := by decide +kernel
theorem dX12_putVariety_33 : decode cX12_putVariety 33 = .ok (.iload_n 2, 1) := by decide +kernel
theorem dX12_putVariety_34 : decode cX12_putVariety 34 = .ok (.iconst 0, 1) := by decide +kernel
theorem dX12_putVariety_35 : decode cX12_putVariety 35 = .ok (.iadd, 1) := by decide +kernel
theorem dX12_putVariety_36 : decode cX12_putVariety 36 = .ok (.iaload, 1) := by decide +kernel
theorem dX12_putVariety_37 : decode cX12_putVariety 37 = .ok (.aload_n 0, 1) := by decide +kernel
theorem dX12_putVariety_38 : decode cX12_putVariety 38 = .ok (.getfield 17, 3) := by decide +kernel
theorem dX12_putVariety_41 : decode cX12_putVariety 41 = .ok (.iload_n 2, 1) := by decide +kernel
theorem dX12_putVariety_42 : decode cX12_putVariety 42 = .ok (.iconst 1, 1) := by decide +kernel
theorem dX12_putVariety_43 : decode cX12_putVariety 43 = .ok (.iadd, 1) := by decide +kernel
theorem dX12_putVariety_44 : decode cX12_putVariety 44 = .ok (.iaload, 1) := by decide +kernel
theorem dX12_putVariety_45 : decode cX12_putVariety 45 = .ok (.iload_n 3, 1) := by decide +kernel
theorem dX12_putVariety_46 : decode cX12_putVariety 46 = .ok (.invokestatic 495, 3) := by decide +kernel
theorem dX12_putVariety_49 : decode cX12_putVariety 49 = .ok (.invokevirtual 492, 3) := by decide +kernel
theorem dX12_putVariety_52 : decode cX12_putVariety 52 = .ok (.iinc 3 1, 3) := by decide +kernel
theorem dX12_putVariety_55 : decode cX12_putVariety 55 = .ok (.goto (-39), 3) := by decide +kernel
theorem dX12_putVariety_58 : decode cX12_putVariety 58 = .ok (.return_, 1) := by decide +kernel
theorem dX12_printTanks_0 : decode cX12_printTanks 0 = .ok (.aload_n 0, 1) := by decide +kernel
theorem dX12_printTanks_1 : decode cX12_printTanks 1 = .ok (.iconst 0, 1) := by decide +kernel
theorem dX12_printTanks_2 : decode cX12_printTanks 2 = .ok (.putfield 3, 3) := by decide +kernel
theorem dX12_printTanks_5 : decode cX12_printTanks 5 = .ok (.aload_n 0, 1) := by decide +kernel
theorem dX12_printTanks_6 : decode cX12_printTanks 6 = .ok (.iconst 0, 1) := by decide +kernel
theorem dX12_printTanks_7 : decode cX12_printTanks 7 = .ok (.putfield 489, 3) := by decide +kernel
theorem dX12_printTanks_10 : decode cX12_printTanks 10 = .ok (.iconst 0, 1) := by decide +kernel
theorem dX12_printTanks_11 : decode cX12_printTanks 11 = .ok (.istore_n 1, 1) := by decide +kernel
theorem dX12_printTanks_12 : decode cX12_printTanks 12 = .ok (.iload_n 1, 1) := by decide +kernel
theorem dX12_printTanks_13 : decode cX12_printTanks 13 = .ok (.aload_n 0, 1) := by decide +kernel
theorem dX12_printTanks_14 : decode cX12_printTanks 14 = .ok (.getfield 17, 3) := by decide +kernel
theorem dX12_printTanks_17 : decode cX12_printTanks 17 = .ok (.bipush 8, 2) := by decide +kernel
theorem dX12_printTanks_19 : decode cX12_printTanks 19 = .ok (.iaload, 1) := by decide +kernel
theorem dX12_printTanks_20 : decode cX12_printTanks 20 = .ok (.if_icmp .ge 51, 3) := by decide +kernel
theorem dX12_printTanks_23 : decode cX12_printTanks 23 = .ok (.aload_n 0, 1) := by decide +kernel
theorem dX12_printTanks_24 : decode cX12_printTanks 24 = .ok (.iload_n 1, 1) := by decide +kernel
theorem dX12_printTanks_25 : decode cX12_printTanks 25 = .ok (.ifCond .ne 7, 3) := by decide +kernel
theorem dX12_printTanks_28 : decode cX12_printTanks 28 = .ok (.iconst 1, 1) := by decide +kernel
theorem dX12_printTanks_29 : decode cX12_printTanks 29 = .ok (.goto 4, 3) := by decide +kernel
theorem dX12_printTanks_32 : decode cX12_printTanks 32 = .ok (.iconst 0, 1) := by decide +kernel
theorem dX12_printTanks_33 : decode cX12_printTanks 33 = .ok (.invokevirtual 498, 3) := by decide +kernel
theorem dX12_printTanks_36 : decode cX12_printTanks 36 = .ok (.aload_n 0, 1) := by decide +kernel
theorem dX12_printTanks_37 : decode cX12_printTanks 37 = .ok (.aload_n 0, 1) := by decide +kernel
theorem dX12_printTanks_38 : decode cX12_printTanks 38 = .ok (.iload_n 1, 1) := by decide +kernel
theorem dX12_printTanks_39 : decode cX12_printTanks 39 = .ok (.iconst 1, 1) := by decide +kernel
theorem dX12_printTanks_40 : decode cX12_printTanks 40 = .ok (.invokevirtual 151, 3) := by decide +kernel
theorem dX12_printTanks_43 : decode cX12_printTanks 43 = .ok (.invokevirtual 501, 3) := by decide +kernel
theorem dX12_printTanks_46 : decode cX12_printTanks 46 = .ok (.aload_n 0, 1) := by decide +kernel
theorem dX12_printTanks_47 : decode cX12_printTanks 47 = .ok (.iload_n 1, 1) := by decide +kernel
theorem dX12_printTanks_48 : decode cX12_printTanks 48 = .ok (.iconst 1, 1) := by decide +kernel
theorem dX12_printTanks_49 : decode cX12_printTanks 49 = .ok (.invokevirtual 151, 3) := by decide +kernel
theorem dX12_printTanks_52 : decode cX12_printTanks 52 = .ok (.ifCond .le 13, 3) := by decide +kernel
theorem dX12_printTanks_55 : decode cX12_printTanks 55 = .ok (.aload_n 0, 1) := by decide +kernel
theorem dX12_printTanks_56 : decode cX12_printTanks 56 = .ok (.aload_n 0, 1) := by decide +kernel
theorem dX12_printTanks_57 : decode cX12_printTanks 57 = .ok (.iload_n 1, 1) := by decide +kernel
theorem dX12_printTanks_58 : decode cX12_printTanks 58 = .ok (.iconst 2, 1) := by decide +kernel
theorem dX12_printTanks_59 : decode cX12_printTanks 59 = .ok (.invokevirtual 151, 3) := by decide +kernel
theorem dX12_printTanks_62 : decode cX12_printTanks 62 = .ok (.invokevirtual 504, 3) := by decide +kernel
theorem dX12_printTanks_65 : decode cX12_printTanks 65 = .ok (.iinc 1 1, 3) := by decide +kernel
theorem dX12_printTanks_68 : decode cX12_printTanks 68 = .ok (.goto (-56), 3) := by decide +kernel
theorem dX12_printTanks_71 : decode cX12_printTanks 71 = .ok (.aload_n 0, 1) := by decide +kernel
theorem dX12_printTanks_72 : decode cX12_printTanks 72 = .ok (.getfield 489, 3) := by decide +kernel
theorem dX12_printTanks_75 : decode cX12_printTanks 75 = .ok (.ireturn, 1) := by decide +kernel
theorem dX12_outputByte_0 : decode cX12_outputByte 0 = .ok (.aload_n 0, 1) := by decide +kernel
theorem dX12_outputByte_1 : decode cX12_outputByte 1 = .ok (.iload_n 1, 1) := by decide +kernel
theorem dX12_outputByte_2 : decode cX12_outputByte 2 = .ok (.i2l, 1) := by decide +kernel
theorem dX12_outputByte_3 : decode cX12_outputByte 3 = .ok (.lconst 0, 1) := by decide +kernel
theorem dX12_outputByte_4 : decode cX12_outputByte 4 = .ok (.aload_n 0, 1) := by decide +kernel
theorem dX12_outputByte_5 : decode cX12_outputByte 5 = .ok (.getfield 489, 3) := by decide +kernel
theorem dX12_outputByte_8 : decode cX12_outputByte 8 = .ok (.iconst 1, 1) := by decide +kernel
theorem dX12_outputByte_9 : decode cX12_outputByte 9 = .ok (.isub, 1) := by decide +kernel
theorem dX12_outputByte_10 : decode cX12_outputByte 10 = .ok (.i2l, 1) := by decide +kernel
theorem dX12_outputByte_11 : decode cX12_outputByte 11 = .ok (.invokestatic 282, 3) := by decide +kernel
theorem dX12_outputByte_14 : decode cX12_outputByte 14 = .ok (.invokevirtual 396, 3) := by decide +kernel
theorem dX12_outputByte_17 : decode cX12_outputByte 17 = .ok (.ifCond .eq 12, 3) := by decide +kernel
theorem dX12_outputByte_20 : decode cX12_outputByte 20 = .ok (.aload_n 0, 1) := by decide +kernel
theorem dX12_outputByte_21 : decode cX12_outputByte 21 = .ok (.getfield 105, 3) := by decide +kernel
theorem dX12_outputByte_24 : decode cX12_outputByte 24 = .ok (.iload_n 1, 1) := by decide +kernel
theorem dX12_outputByte_25 : decode cX12_outputByte 25 = .ok (.iaload, 1) := by decide +kernel
theorem dX12_outputByte_26 : decode cX12_outputByte 26 = .ok (.goto 4, 3) := by decide +kernel
theorem dX12_outputByte_29 : decode cX12_outputByte 29 = .ok (.iconst 0, 1) := by decide +kernel
theorem dX12_outputByte_30 : decode cX12_outputByte 30 = .ok (.ireturn, 1) := by decide +kernel
