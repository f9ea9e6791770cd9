theorem dX0_init_0 : decode cX0_init 0 = .ok (.aload_n 0, 1) := by decide +kernel
theorem dX0_init_1 : decode cX0_init 1 = .ok (.invokespecial 1, 3) := by decide +kernel
theorem dX0_init_4 : decode cX0_init 4 = .ok (.aload_n 0, 1) := by decide +kernel
theorem dX0_init_5 : decode cX0_init 5 = .ok (.new 7, 3) := by decide +kernel
theorem dX0_init_8 : decode cX0_init 8 = .ok (.dup, 1) := by decide +kernel
theorem dX0_init_9 : decode cX0_init 9 = .ok (.invokespecial 9, 3) := by decide +kernel
theorem dX0_init_12 : decode cX0_init 12 = .ok (.putfield 10, 3) := by decide +kernel
theorem dX0_init_15 : decode cX0_init 15 = .ok (.aload_n 0, 1) := by decide +kernel
theorem dX0_init_16 : decode cX0_init 16 = .ok (.new 7, 3) := by decide +kernel
theorem dX0_init_19 : decode cX0_init 19 = .ok (.dup, 1) := by decide +kernel
theorem dX0_init_20 : decode cX0_init 20 = .ok (.invokespecial 9, 3) := by decide +kernel
theorem dX0_init_23 : decode cX0_init 23 = .ok (.putfield 16, 3) := by decide +kernel
theorem dX0_init_26 : decode cX0_init 26 = .ok (.aload_n 0, 1) := by decide +kernel
theorem dX0_init_27 : decode cX0_init 27 = .ok (.new 7, 3) := by decide +kernel
theorem dX0_init_30 : decode cX0_init 30 = .ok (.dup, 1) := by decide +kernel
theorem dX0_init_31 : decode cX0_init 31 = .ok (.invokespecial 9, 3) := by decide +kernel
theorem dX0_init_34 : decode cX0_init 34 = .ok (.putfield 19, 3) := by decide +kernel
theorem dX0_init_37 : decode cX0_init 37 = .ok (.aload_n 0, 1) := by decide +kernel
theorem dX0_init_38 : decode cX0_init 38 = .ok (.new 7, 3) := by decide +kernel
theorem dX0_init_41 : decode cX0_init 41 = .ok (.dup, 1) := by decide +kernel
theorem dX0_init_42 : decode cX0_init 42 = .ok (.invokespecial 9, 3) := by decide +kernel
theorem dX0_init_45 : decode cX0_init 45 = .ok (.putfield 22, 3) := by decide +kernel
theorem dX0_init_48 : decode cX0_init 48 = .ok (.aload_n 0, 1) := by decide +kernel
theorem dX0_init_49 : decode cX0_init 49 = .ok (.new 7, 3) := by decide +kernel
theorem dX0_init_52 : decode cX0_init 52 = .ok (.dup, 1) := by decide +kernel
theorem dX0_init_53 : decode cX0_init 53 = .ok (.invokespecial 9, 3) := by decide +kernel
theorem dX0_init_56 : decode cX0_init 56 = .ok (.putfield 25, 3) := by decide +kernel
theorem dX0_init_59 : decode cX0_init 59 = .ok (.aload_n 0, 1) := by decide +kernel
theorem dX0_init_60 : decode cX0_init 60 = .ok (.new 7, 3) := by decide +kernel
theorem dX0_init_63 : decode cX0_init 63 = .ok (.dup, 1) := by decide +kernel
theorem dX0_init_64 : decode cX0_init 64 = .ok (.invokespecial 9, 3) := by decide +kernel
theorem dX0_init_67 : decode cX0_init 67 = .ok (.putfield 28, 3) := by decide +kernel
theorem dX0_init_70 : decode cX0_init 70 = .ok (.aload_n 0, 1) := by decide +kernel
theorem dX0_init_71 : decode cX0_init 71 = .ok (.new 7, 3) := by decide +kernel
theorem dX0_init_74 : decode cX0_init 74 = .ok (.dup, 1) := by decide +kernel
theorem dX0_init_75 : decode cX0_init 75 = .ok (.invokespecial 9, 3) := by decide +kernel
theorem dX0_init_78 : decode cX0_init 78 = .ok (.putfield 31, 3) := by decide +kernel
theorem dX0_init_81 : decode cX0_init 81 = .ok (.aload_n 0, 1) := by decide +kernel
theorem dX0_init_82 : decode cX0_init 82 = .ok (.new 7, 3) := by decide +kernel
theorem dX0_init_85 : decode cX0_init 85 = .ok (.dup, 1) := by decide +kernel
theorem dX0_init_86 : decode cX0_init 86 = .ok (.invokespecial 9, 3) := by decide +kernel
theorem dX0_init_89 : decode cX0_init 89 = .ok (.putfield 34, 3) := by decide +kernel
theorem dX0_init_92 : decode cX0_init 92 = .ok (.aload_n 0, 1) := by decide +kernel
theorem dX0_init_93 : decode cX0_init 93 = .ok (.new 7, 3) := by decide +kernel
theorem dX0_init_96 : decode cX0_init 96 = .ok (.dup, 1) := by decide +kernel
theorem dX0_init_97 : decode cX0_init 97 = .ok (.invokespecial 9, 3) := by decide +kernel
theorem dX0_init_100 : decode cX0_init 100 = .ok (.putfield 37, 3) := by decide +kernel
theorem dX0_init_103 : decode cX0_init 103 = .ok (.aload_n 0, 1) := by decide +kernel
theorem dX0_init_104 : decode cX0_init 104 = .ok (.new 7, 3) := by decide +kernel
theorem dX0_init_107 : decode cX0_init 107 = .ok (.dup, 1) := by decide +kernel
theorem dX0_init_108 : decode cX0_init 108 = .ok (.invokespecial 9, 3) := by decide +kernel
theorem dX0_init_111 : decode cX0_init 111 = .ok (.putfield 40, 3) := by decide +kernel
theorem dX0_init_114 : decode cX0_init 114 = .ok (.aload_n 0, 1) := by decide +kernel
theorem dX0_init_115 : decode cX0_init 115 = .ok (.new 7, 3) := by decide +kernel
theorem dX0_init_118 : decode cX0_init 118 = .ok (.dup, 1) := by decide +kernel
theorem dX0_init_119 : decode cX0_init 119 = .ok (.invokespecial 9, 3) := by decide +kernel
theorem dX0_init_122 : decode cX0_init 122 = .ok (.putfield 43, 3) := by decide +kernel
theorem dX0_init_125 : decode cX0_init 125 = .ok (.aload_n 0, 1) := by decide +kernel
theorem dX0_init_126 : decode cX0_init 126 = .ok (.new 7, 3) := by decide +kernel
theorem dX0_init_129 : decode cX0_init 129 = .ok (.dup, 1) := by decide +kernel
theorem dX0_init_130 : decode cX0_init 130 = .ok (.invokespecial 9, 3) := by decide +kernel
theorem dX0_init_133 : decode cX0_init 133 = .ok (.putfield 46, 3) := by decide +kernel
theorem dX0_init_136 : decode cX0_init 136 = .ok (.return_, 1) := by decide +kernel
theorem dX0_divide_0 : decode cX0_divide 0 = .ok (.aload_n 3, 1) := by decide +kernel
theorem dX0_divide_1 : decode cX0_divide 1 = .ok (.lconst 0, 1) := by decide +kernel
theorem dX0_divide_2 : decode cX0_divide 2 = .ok (.invokevirtual 49, 3) := by decide +kernel
theorem dX0_divide_5 : decode cX0_divide 5 = .ok (.aload_n 2, 1) := by decide +kernel
theorem dX0_divide_6 : decode cX0_divide 6 = .ok (.invokevirtual 53, 3) := by decide +kernel
theorem dX0_divide_9 : decode cX0_divide 9 = .ok (.ifCond .ne 11, 3) := by decide +kernel
theorem dX0_divide_12 : decode cX0_divide 12 = .ok (.aload_n 1, 1) := by decide +kernel
theorem dX0_divide_13 : decode cX0_divide 13 = .ok (.aload_n 2, 1) := by decide +kernel
theorem dX0_divide_14 : decode cX0_divide 14 = .ok (.invokevirtual 57, 3) := by decide +kernel
theorem dX0_divide_17 : decode cX0_divide 17 = .ok (.ifCond .ge 4, 3) := by decide +kernel
theorem dX0_divide_20 : decode cX0_divide 20 = .ok (.return_, 1) := by decide +kernel
theorem dX0_divide_21 : decode cX0_divide 21 = .ok (.aload_n 1, 1) := by decide +kernel
theorem dX0_divide_22 : decode cX0_divide 22 = .ok (.invokevirtual 61, 3) := by decide +kernel
theorem dX0_divide_25 : decode cX0_divide 25 = .ok (.ifCond .eq 34, 3) := by decide +kernel
theorem dX0_divide_28 : decode cX0_divide 28 = .ok (.aload_n 1, 1) := by decide +kernel
theorem dX0_divide_29 : decode cX0_divide 29 = .ok (.invokevirtual 64, 3) := by decide +kernel
theorem dX0_divide_32 : decode cX0_divide 32 = .ok (.lstore 4, 2) := by decide +kernel
theorem dX0_divide_34 : decode cX0_divide 34 = .ok (.aload_n 2, 1) := by decide +kernel
theorem dX0_divide_35 : decode cX0_divide 35 = .ok (.invokevirtual 64, 3) := by decide +kernel
theorem dX0_divide_38 : decode cX0_divide 38 = .ok (.lstore 6, 2) := by decide +kernel
theorem dX0_divide_40 : decode cX0_divide 40 = .ok (.aload_n 3, 1) := by decide +kernel
theorem dX0_divide_41 : decode cX0_divide 41 = .ok (.lload 4, 2) := by decide +kernel
theorem dX0_divide_43 : decode cX0_divide 43 = .ok (.lload 6, 2) := by decide +kernel
theorem dX0_divide_45 : decode cX0_divide 45 = .ok (.ldiv, 1) := by decide +kernel
theorem dX0_divide_46 : decode cX0_divide 46 = .ok (.invokevirtual 49, 3) := by decide +kernel
theorem dX0_divide_49 : decode cX0_divide 49 = .ok (.aload_n 1, 1) := by decide +kernel
theorem dX0_divide_50 : decode cX0_divide 50 = .ok (.lload 4, 2) := by decide +kernel
theorem dX0_divide_52 : decode cX0_divide 52 = .ok (.lload 6, 2) := by decide +kernel
theorem dX0_divide_54 : decode cX0_divide 54 = .ok (.lrem, 1) := by decide +kernel
theorem dX0_divide_55 : decode cX0_divide 55 = .ok (.invokevirtual 49, 3) := by decide +kernel
theorem dX0_divide_58 : decode cX0_divide 58 = .ok (.return_, 1) := by decide +kernel
theorem dX0_divide_59 : decode cX0_divide 59 = .ok (.aload_n 2, 1) := by decide +kernel
theorem dX0_divide_60 : decode cX0_divide 60 = .ok (.getfield 68, 3) := by decide +kernel
theorem dX0_divide_63 : decode cX0_divide 63 = .ok (.aload_n 2, 1) := by decide +kernel
theorem dX0_divide_64 : decode cX0_divide 64 = .ok (.getfield 72, 3) := by decide +kernel
theorem dX0_divide_67 : decode cX0_divide 67 = .ok (.iconst 1, 1) := by decide +kernel
theorem dX0_divide_68 : decode cX0_divide 68 = .ok (.isub, 1) := by decide +kernel
theorem dX0_divide_69 : decode cX0_divide 69 = .ok (.iaload, 1) := by decide +kernel
theorem dX0_divide_70 : decode cX0_divide 70 = .ok (.invokestatic 76, 3) := by decide +kernel
theorem dX0_divide_73 : decode cX0_divide 73 = .ok (.istore 4, 2) := by decide +kernel
theorem dX0_divide_75 : decode cX0_divide 75 = .ok (.aload_n 0, 1) := by decide +kernel
theorem dX0_divide_76 : decode cX0_divide 76 = .ok (.getfield 10, 3) := by decide +kernel
theorem dX0_divide_79 : decode cX0_divide 79 = .ok (.aload_n 2, 1) := by decide +kernel
theorem dX0_divide_80 : decode cX0_divide 80 = .ok (.invokevirtual 82, 3) := by decide +kernel
theorem dX0_divide_83 : decode cX0_divide 83 = .ok (.aload_n 0, 1) := by decide +kernel
theorem dX0_divide_84 : decode cX0_divide 84 = .ok (.getfield 10, 3) := by decide +kernel
theorem dX0_divide_87 : decode cX0_divide 87 = .ok (.iload 4, 2) := by decide +kernel
theorem dX0_divide_89 : decode cX0_divide 89 = .ok (.invokevirtual 86, 3) := by decide +kernel
theorem dX0_divide_92 : decode cX0_divide 92 = .ok (.aload_n 1, 1) := by decide +kernel
theorem dX0_divide_93 : decode cX0_divide 93 = .ok (.iload 4, 2) := by decide +kernel
theorem dX0_divide_95 : decode cX0_divide 95 = .ok (.invokevirtual 86, 3) := by decide +kernel
theorem dX0_divide_98 : decode cX0_divide 98 = .ok (.aload_n 1, 1) := by decide +kernel
theorem dX0_divide_99 : decode cX0_divide 99 = .ok (.getfield 72, 3) := by decide +kernel
theorem dX0_divide_102 : decode cX0_divide 102 = .ok (.bipush 15, 2) := by decide +kernel
theorem dX0_divide_104 : decode cX0_divide 104 = .ok (.invokestatic 90, 3) := by decide +kernel
theorem dX0_divide_107 : decode cX0_divide 107 = .ok (.aload_n 2, 1) := by decide +kernel
theorem dX0_divide_108 : decode cX0_divide 108 = .ok (.getfield 72, 3) := by decide +kernel
theorem dX0_divide_111 : decode cX0_divide 111 = .ok (.isub, 1) := by decide +kernel
theorem dX0_divide_112 : decode cX0_divide 112 = .ok (.istore 5, 2) := by decide +kernel
theorem dX0_divide_114 : decode cX0_divide 114 = .ok (.iload 5, 2) := by decide +kernel
theorem dX0_divide_116 : decode cX0_divide 116 = .ok (.istore 6, 2) := by decide +kernel
theorem dX0_divide_118 : decode cX0_divide 118 = .ok (.iload 6, 2) := by decide +kernel
theorem dX0_divide_120 : decode cX0_divide 120 = .ok (.ifCond .lt 80, 3) := by decide +kernel
theorem dX0_divide_123 : decode cX0_divide 123 = .ok (.aload_n 0, 1) := by decide +kernel
theorem dX0_divide_124 : decode cX0_divide 124 = .ok (.aload_n 1, 1) := by decide +kernel
theorem dX0_divide_125 : decode cX0_divide 125 = .ok (.iload 6, 2) := by decide +kernel
theorem dX0_divide_127 : decode cX0_divide 127 = .ok (.invokevirtual 96, 3) := by decide +kernel
theorem dX0_divide_130 : decode cX0_divide 130 = .ok (.lstore 7, 2) := by decide +kernel
theorem dX0_divide_132 : decode cX0_divide 132 = .ok (.aload_n 1, 1) := by decide +kernel
theorem dX0_divide_133 : decode cX0_divide 133 = .ok (.lload 7, 2) := by decide +kernel
theorem dX0_divide_135 : decode cX0_divide 135 = .ok (.aload_n 0, 1) := by decide +kernel
theorem dX0_divide_136 : decode cX0_divide 136 = .ok (.getfield 10, 3) := by decide +kernel
theorem dX0_divide_139 : decode cX0_divide 139 = .ok (.iload 6, 2) := by decide +kernel
theorem dX0_divide_141 : decode cX0_divide 141 = .ok (.invokevirtual 100, 3) := by decide +kernel
theorem dX0_divide_144 : decode cX0_divide 144 = .ok (.istore 9, 2) := by decide +kernel
theorem dX0_divide_146 : decode cX0_divide 146 = .ok (.iconst 0, 1) := by decide +kernel
theorem dX0_divide_147 : decode cX0_divide 147 = .ok (.istore 10, 2) := by decide +kernel
theorem dX0_divide_149 : decode cX0_divide 149 = .ok (.iload 10, 2) := by decide +kernel
theorem dX0_divide_151 : decode cX0_divide 151 = .ok (.iconst 2, 1) := by decide +kernel
theorem dX0_divide_152 : decode cX0_divide 152 = .ok (.if_icmp .ge 32, 3) := by decide +kernel
theorem dX0_divide_155 : decode cX0_divide 155 = .ok (.iload 9, 2) := by decide +kernel
theorem dX0_divide_157 : decode cX0_divide 157 = .ok (.ifCond .eq 27, 3) := by decide +kernel
theorem dX0_divide_160 : decode cX0_divide 160 = .ok (.lload 7, 2) := by decide +kernel
theorem dX0_divide_162 : decode cX0_divide 162 = .ok (.lconst 1, 1) := by decide +kernel
theorem dX0_divide_163 : decode cX0_divide 163 = .ok (.lsub, 1) := by decide +kernel
theorem dX0_divide_164 : decode cX0_divide 164 = .ok (.lstore 7, 2) := by decide +kernel
theorem dX0_divide_166 : decode cX0_divide 166 = .ok (.aload_n 1, 1) := by decide +kernel
theorem dX0_divide_167 : decode cX0_divide 167 = .ok (.aload_n 0, 1) := by decide +kernel
theorem dX0_divide_168 : decode cX0_divide 168 = .ok (.getfield 10, 3) := by decide +kernel
theorem dX0_divide_171 : decode cX0_divide 171 = .ok (.iload 6, 2) := by decide +kernel
theorem dX0_divide_173 : decode cX0_divide 173 = .ok (.invokevirtual 104, 3) := by decide +kernel
theorem dX0_divide_176 : decode cX0_divide 176 = .ok (.istore 9, 2) := by decide +kernel
theorem dX0_divide_178 : decode cX0_divide 178 = .ok (.iinc 10 1, 3) := by decide +kernel
theorem dX0_divide_181 : decode cX0_divide 181 = .ok (.goto (-32), 3) := by decide +kernel
theorem dX0_divide_184 : decode cX0_divide 184 = .ok (.aload_n 3, 1) := by decide +kernel
theorem dX0_divide_185 : decode cX0_divide 185 = .ok (.getfield 68, 3) := by decide +kernel
theorem dX0_divide_188 : decode cX0_divide 188 = .ok (.iload 6, 2) := by decide +kernel
theorem dX0_divide_190 : decode cX0_divide 190 = .ok (.lload 7, 2) := by decide +kernel
theorem dX0_divide_192 : decode cX0_divide 192 = .ok (.l2i, 1) := by decide +kernel
theorem dX0_divide_193 : decode cX0_divide 193 = .ok (.iastore, 1) := by decide +kernel
theorem dX0_divide_194 : decode cX0_divide 194 = .ok (.iinc 6 (-1), 3) := by decide +kernel
theorem dX0_divide_197 : decode cX0_divide 197 = .ok (.goto (-79), 3) := by decide +kernel
theorem dX0_divide_200 : decode cX0_divide 200 = .ok (.aload_n 3, 1) := by decide +kernel
theorem dX0_divide_201 : decode cX0_divide 201 = .ok (.iload 5, 2) := by decide +kernel
theorem dX0_divide_203 : decode cX0_divide 203 = .ok (.iconst 1, 1) := by decide +kernel
theorem dX0_divide_204 : decode cX0_divide 204 = .ok (.iadd, 1) := by decide +kernel
theorem dX0_divide_205 : decode cX0_divide 205 = .ok (.putfield 72, 3) := by decide +kernel
theorem dX0_divide_208 : decode cX0_divide 208 = .ok (.aload_n 3, 1) := by decide +kernel
theorem dX0_divide_209 : decode cX0_divide 209 = .ok (.invokevirtual 108, 3) := by decide +kernel
theorem dX0_divide_212 : decode cX0_divide 212 = .ok (.aload_n 1, 1) := by decide +kernel
theorem dX0_divide_213 : decode cX0_divide 213 = .ok (.iload 4, 2) := by decide +kernel
theorem dX0_divide_215 : decode cX0_divide 215 = .ok (.invokevirtual 111, 3) := by decide +kernel
theorem dX0_divide_218 : decode cX0_divide 218 = .ok (.aload_n 1, 1) := by decide +kernel
theorem dX0_divide_219 : decode cX0_divide 219 = .ok (.invokevirtual 108, 3) := by decide +kernel
theorem dX0_divide_222 : decode cX0_divide 222 = .ok (.return_, 1) := by decide +kernel
theorem dX0_guessLimb_0 : decode cX0_guessLimb 0 = .ok (.aload_n 0, 1) := by decide +kernel
theorem dX0_guessLimb_1 : decode cX0_guessLimb 1 = .ok (.getfield 10, 3) := by decide +kernel
theorem dX0_guessLimb_4 : decode cX0_guessLimb 4 = .ok (.getfield 72, 3) := by decide +kernel
theorem dX0_guessLimb_7 : decode cX0_guessLimb 7 = .ok (.istore_n 3, 1) := by decide +kernel
theorem dX0_guessLimb_8 : decode cX0_guessLimb 8 = .ok (.aload_n 1, 1) := by decide +kernel
theorem dX0_guessLimb_9 : decode cX0_guessLimb 9 = .ok (.getfield 68, 3) := by decide +kernel
theorem dX0_guessLimb_12 : decode cX0_guessLimb 12 = .ok (.iload_n 2, 1) := by decide +kernel
theorem dX0_guessLimb_13 : decode cX0_guessLimb 13 = .ok (.iload_n 3, 1) := by decide +kernel
theorem dX0_guessLimb_14 : decode cX0_guessLimb 14 = .ok (.iadd, 1) := by decide +kernel
theorem dX0_guessLimb_15 : decode cX0_guessLimb 15 = .ok (.iaload, 1) := by decide +kernel
theorem dX0_guessLimb_16 : decode cX0_guessLimb 16 = .ok (.i2l, 1) := by decide +kernel
theorem dX0_guessLimb_17 : decode cX0_guessLimb 17 = .ok (.ldc2_w 114, 3) := by decide +kernel
theorem dX0_guessLimb_20 : decode cX0_guessLimb 20 = .ok (.land, 1) := by decide +kernel
theorem dX0_guessLimb_21 : decode cX0_guessLimb 21 = .ok (.lstore 4, 2) := by decide +kernel
theorem dX0_guessLimb_23 : decode cX0_guessLimb 23 = .ok (.aload_n 0, 1) := by decide +kernel
theorem dX0_guessLimb_24 : decode cX0_guessLimb 24 = .ok (.getfield 10, 3) := by decide +kernel
theorem dX0_guessLimb_27 : decode cX0_guessLimb 27 = .ok (.getfield 68, 3) := by decide +kernel
theorem dX0_guessLimb_30 : decode cX0_guessLimb 30 = .ok (.iload_n 3, 1) := by decide +kernel
theorem dX0_guessLimb_31 : decode cX0_guessLimb 31 = .ok (.iconst 1, 1) := by decide +kernel
theorem dX0_guessLimb_32 : decode cX0_guessLimb 32 = .ok (.isub, 1) := by decide +kernel
theorem dX0_guessLimb_33 : decode cX0_guessLimb 33 = .ok (.iaload, 1) := by decide +kernel
theorem dX0_guessLimb_34 : decode cX0_guessLimb 34 = .ok (.i2l, 1) := by decide +kernel
theorem dX0_guessLimb_35 : decode cX0_guessLimb 35 = .ok (.ldc2_w 114, 3) := by decide +kernel
theorem dX0_guessLimb_38 : decode cX0_guessLimb 38 = .ok (.land, 1) := by decide +kernel
theorem dX0_guessLimb_39 : decode cX0_guessLimb 39 = .ok (.lstore 6, 2) := by decide +kernel
theorem dX0_guessLimb_41 : decode cX0_guessLimb 41 = .ok (.lload 4, 2) := by decide +kernel
theorem dX0_guessLimb_43 : decode cX0_guessLimb 43 = .ok (.lload 6, 2) := by decide +kernel
theorem dX0_guessLimb_45 : decode cX0_guessLimb 45 = .ok (.lcmp, 1) := by decide +kernel
theorem dX0_guessLimb_46 : decode cX0_guessLimb 46 = .ok (.ifCond .lt 7, 3) := by decide +kernel
theorem dX0_guessLimb_49 : decode cX0_guessLimb 49 = .ok (.ldc2_w 114, 3) := by decide +kernel
theorem dX0_guessLimb_52 : decode cX0_guessLimb 52 = .ok (.lreturn, 1) := by decide +kernel
theorem dX0_guessLimb_53 : decode cX0_guessLimb 53 = .ok (.lload 4, 2) := by decide +kernel
theorem dX0_guessLimb_55 : decode cX0_guessLimb 55 = .ok (.bipush 32, 2) := by decide +kernel
theorem dX0_guessLimb_57 : decode cX0_guessLimb 57 = .ok (.lshl, 1) := by decide +kernel
theorem dX0_guessLimb_58 : decode cX0_guessLimb 58 = .ok (.aload_n 1, 1) := by decide +kernel
theorem dX0_guessLimb_59 : decode cX0_guessLimb 59 = .ok (.getfield 68, 3) := by decide +kernel
theorem dX0_guessLimb_62 : decode cX0_guessLimb 62 = .ok (.iload_n 2, 1) := by decide +kernel
theorem dX0_guessLimb_63 : decode cX0_guessLimb 63 = .ok (.iload_n 3, 1) := by decide +kernel
theorem dX0_guessLimb_64 : decode cX0_guessLimb 64 = .ok (.iadd, 1) := by decide +kernel
theorem dX0_guessLimb_65 : decode cX0_guessLimb 65 = .ok (.iconst 1, 1) := by decide +kernel
theorem dX0_guessLimb_66 : decode cX0_guessLimb 66 = .ok (.isub, 1) := by decide +kernel
theorem dX0_guessLimb_67 : decode cX0_guessLimb 67 = .ok (.iaload, 1) := by decide +kernel
theorem dX0_guessLimb_68 : decode cX0_guessLimb 68 = .ok (.i2l, 1) := by decide +kernel
theorem dX0_guessLimb_69 : decode cX0_guessLimb 69 = .ok (.ldc2_w 114, 3) := by decide +kernel
theorem dX0_guessLimb_72 : decode cX0_guessLimb 72 = .ok (.land, 1) := by decide +kernel
theorem dX0_guessLimb_73 : decode cX0_guessLimb 73 = .ok (.lor, 1) := by decide +kernel
theorem dX0_guessLimb_74 : decode cX0_guessLimb 74 = .ok (.lstore 8, 2) := by decide +kernel
theorem dX0_guessLimb_76 : decode cX0_guessLimb 76 = .ok (.lload 8, 2) := by decide +kernel
theorem dX0_guessLimb_78 : decode cX0_guessLimb 78 = .ok (.iconst 1, 1) := by decide +kernel
theorem dX0_guessLimb_79 : decode cX0_guessLimb 79 = .ok (.lushr, 1) := by decide +kernel
theorem dX0_guessLimb_80 : decode cX0_guessLimb 80 = .ok (.lload 6, 2) := by decide +kernel
theorem dX0_guessLimb_82 : decode cX0_guessLimb 82 = .ok (.ldiv, 1) := by decide +kernel
theorem dX0_guessLimb_83 : decode cX0_guessLimb 83 = .ok (.iconst 1, 1) := by decide +kernel
theorem dX0_guessLimb_84 : decode cX0_guessLimb 84 = .ok (.lshl, 1) := by decide +kernel
theorem dX0_guessLimb_85 : decode cX0_guessLimb 85 = .ok (.lstore 10, 2) := by decide +kernel
theorem dX0_guessLimb_87 : decode cX0_guessLimb 87 = .ok (.lload 8, 2) := by decide +kernel
theorem dX0_guessLimb_89 : decode cX0_guessLimb 89 = .ok (.lload 10, 2) := by decide +kernel
theorem dX0_guessLimb_91 : decode cX0_guessLimb 91 = .ok (.lload 6, 2) := by decide +kernel
theorem dX0_guessLimb_93 : decode cX0_guessLimb 93 = .ok (.lmul, 1) := by decide +kernel
theorem dX0_guessLimb_94 : decode cX0_guessLimb 94 = .ok (.lsub, 1) := by decide +kernel
theorem dX0_guessLimb_95 : decode cX0_guessLimb 95 = .ok (.lload 6, 2) := by decide +kernel
theorem dX0_guessLimb_97 : decode cX0_guessLimb 97 = .ok (.lcmp, 1) := by decide +kernel
theorem dX0_guessLimb_98 : decode cX0_guessLimb 98 = .ok (.ifCond .lt 10, 3) := by decide +kernel
theorem dX0_guessLimb_101 : decode cX0_guessLimb 101 = .ok (.lload 10, 2) := by decide +kernel
theorem dX0_guessLimb_103 : decode cX0_guessLimb 103 = .ok (.lconst 1, 1) := by decide +kernel
theorem dX0_guessLimb_104 : decode cX0_guessLimb 104 = .ok (.ladd, 1) := by decide +kernel
theorem dX0_guessLimb_105 : decode cX0_guessLimb 105 = .ok (.goto 5, 3) := by decide +kernel
theorem dX0_guessLimb_108 : decode cX0_guessLimb 108 = .ok (.lload 10, 2) := by decide +kernel
theorem dX0_guessLimb_110 : decode cX0_guessLimb 110 = .ok (.lreturn, 1) := by decide +kernel
theorem dX0_findCommon_0 : decode cX0_findCommon 0 = .ok (.aload_n 1, 1) := by decide +kernel
theorem dX0_findCommon_1 : decode cX0_findCommon 1 = .ok (.invokevirtual 116, 3) := by decide +kernel
theorem dX0_findCommon_4 : decode cX0_findCommon 4 = .ok (.ifCond .ne 10, 3) := by decide +kernel
theorem dX0_findCommon_7 : decode cX0_findCommon 7 = .ok (.aload_n 2, 1) := by decide +kernel
theorem dX0_findCommon_8 : decode cX0_findCommon 8 = .ok (.invokevirtual 116, 3) := by decide +kernel
theorem dX0_findCommon_11 : decode cX0_findCommon 11 = .ok (.ifCond .eq 12, 3) := by decide +kernel
theorem dX0_findCommon_14 : decode cX0_findCommon 14 = .ok (.aload_n 0, 1) := by decide +kernel
theorem dX0_findCommon_15 : decode cX0_findCommon 15 = .ok (.getfield 25, 3) := by decide +kernel
theorem dX0_findCommon_18 : decode cX0_findCommon 18 = .ok (.lconst 1, 1) := by decide +kernel
theorem dX0_findCommon_19 : decode cX0_findCommon 19 = .ok (.invokevirtual 49, 3) := by decide +kernel
theorem dX0_findCommon_22 : decode cX0_findCommon 22 = .ok (.return_, 1) := by decide +kernel
theorem dX0_findCommon_23 : decode cX0_findCommon 23 = .ok (.aload_n 0, 1) := by decide +kernel
theorem dX0_findCommon_24 : decode cX0_findCommon 24 = .ok (.getfield 19, 3) := by decide +kernel
theorem dX0_findCommon_27 : decode cX0_findCommon 27 = .ok (.astore_n 3, 1) := by decide +kernel
theorem dX0_findCommon_28 : decode cX0_findCommon 28 = .ok (.aload_n 0, 1) := by decide +kernel
theorem dX0_findCommon_29 : decode cX0_findCommon 29 = .ok (.getfield 22, 3) := by decide +kernel
theorem dX0_findCommon_32 : decode cX0_findCommon 32 = .ok (.astore 4, 2) := by decide +kernel
theorem dX0_findCommon_34 : decode cX0_findCommon 34 = .ok (.aload_n 3, 1) := by decide +kernel
theorem dX0_findCommon_35 : decode cX0_findCommon 35 = .ok (.aload_n 1, 1) := by decide +kernel
theorem dX0_findCommon_36 : decode cX0_findCommon 36 = .ok (.invokevirtual 82, 3) := by decide +kernel
theorem dX0_findCommon_39 : decode cX0_findCommon 39 = .ok (.aload 4, 2) := by decide +kernel
theorem dX0_findCommon_41 : decode cX0_findCommon 41 = .ok (.aload_n 2, 1) := by decide +kernel
theorem dX0_findCommon_42 : decode cX0_findCommon 42 = .ok (.invokevirtual 82, 3) := by decide +kernel
theorem dX0_findCommon_45 : decode cX0_findCommon 45 = .ok (.iconst 0, 1) := by decide +kernel
theorem dX0_findCommon_46 : decode cX0_findCommon 46 = .ok (.istore 5, 2) := by decide +kernel
theorem dX0_findCommon_48 : decode cX0_findCommon 48 = .ok (.iload 5, 2) := by decide +kernel
theorem dX0_findCommon_50 : decode cX0_findCommon 50 = .ok (.ldc 119, 2) := by decide +kernel
theorem dX0_findCommon_52 : decode cX0_findCommon 52 = .ok (.if_icmp .ge 73, 3) := by decide +kernel
theorem dX0_findCommon_55 : decode cX0_findCommon 55 = .ok (.aload 4, 2) := by decide +kernel
theorem dX0_findCommon_57 : decode cX0_findCommon 57 = .ok (.invokevirtual 53, 3) := by decide +kernel
theorem dX0_findCommon_60 : decode cX0_findCommon 60 = .ok (.ifCond .ne 65, 3) := by decide +kernel
theorem dX0_findCommon_63 : decode cX0_findCommon 63 = .ok (.aload_n 3, 1) := by decide +kernel
theorem dX0_findCommon_64 : decode cX0_findCommon 64 = .ok (.invokevirtual 61, 3) := by decide +kernel
theorem dX0_findCommon_67 : decode cX0_findCommon 67 = .ok (.ifCond .eq 31, 3) := by decide +kernel
theorem dX0_findCommon_70 : decode cX0_findCommon 70 = .ok (.aload 4, 2) := by decide +kernel
theorem dX0_findCommon_72 : decode cX0_findCommon 72 = .ok (.invokevirtual 61, 3) := by decide +kernel
theorem dX0_findCommon_75 : decode cX0_findCommon 75 = .ok (.ifCond .eq 23, 3) := by decide +kernel
theorem dX0_findCommon_78 : decode cX0_findCommon 78 = .ok (.aload_n 0, 1) := by decide +kernel
theorem dX0_findCommon_79 : decode cX0_findCommon 79 = .ok (.getfield 25, 3) := by decide +kernel
theorem dX0_findCommon_82 : decode cX0_findCommon 82 = .ok (.aload_n 3, 1) := by decide +kernel
theorem dX0_findCommon_83 : decode cX0_findCommon 83 = .ok (.invokevirtual 64, 3) := by decide +kernel
theorem dX0_findCommon_86 : decode cX0_findCommon 86 = .ok (.aload 4, 2) := by decide +kernel
theorem dX0_findCommon_88 : decode cX0_findCommon 88 = .ok (.invokevirtual 64, 3) := by decide +kernel
theorem dX0_findCommon_91 : decode cX0_findCommon 91 = .ok (.invokestatic 120, 3) := by decide +kernel
theorem dX0_findCommon_94 : decode cX0_findCommon 94 = .ok (.invokevirtual 49, 3) := by decide +kernel
theorem dX0_findCommon_97 : decode cX0_findCommon 97 = .ok (.return_, 1) := by decide +kernel
theorem dX0_findCommon_98 : decode cX0_findCommon 98 = .ok (.aload_n 0, 1) := by decide +kernel
theorem dX0_findCommon_99 : decode cX0_findCommon 99 = .ok (.aload_n 3, 1) := by decide +kernel
theorem dX0_findCommon_100 : decode cX0_findCommon 100 = .ok (.aload 4, 2) := by decide +kernel
theorem dX0_findCommon_102 : decode cX0_findCommon 102 = .ok (.aload_n 0, 1) := by decide +kernel
theorem dX0_findCommon_103 : decode cX0_findCommon 103 = .ok (.getfield 16, 3) := by decide +kernel
theorem dX0_findCommon_106 : decode cX0_findCommon 106 = .ok (.invokevirtual 124, 3) := by decide +kernel
theorem dX0_findCommon_109 : decode cX0_findCommon 109 = .ok (.aload_n 3, 1) := by decide +kernel
theorem dX0_findCommon_110 : decode cX0_findCommon 110 = .ok (.astore 6, 2) := by decide +kernel
theorem dX0_findCommon_112 : decode cX0_findCommon 112 = .ok (.aload 4, 2) := by decide +kernel
theorem dX0_findCommon_114 : decode cX0_findCommon 114 = .ok (.astore_n 3, 1) := by decide +kernel
theorem dX0_findCommon_115 : decode cX0_findCommon 115 = .ok (.aload 6, 2) := by decide +kernel
theorem dX0_findCommon_117 : decode cX0_findCommon 117 = .ok (.astore 4, 2) := by decide +kernel
theorem dX0_findCommon_119 : decode cX0_findCommon 119 = .ok (.iinc 5 1, 3) := by decide +kernel
theorem dX0_findCommon_122 : decode cX0_findCommon 122 = .ok (.goto (-74), 3) := by decide +kernel
theorem dX0_findCommon_125 : decode cX0_findCommon 125 = .ok (.aload_n 0, 1) := by decide +kernel
theorem dX0_findCommon_126 : decode cX0_findCommon 126 = .ok (.getfield 25, 3) := by decide +kernel
theorem dX0_findCommon_129 : decode cX0_findCommon 129 = .ok (.aload_n 3, 1) := by decide +kernel
theorem dX0_findCommon_130 : decode cX0_findCommon 130 = .ok (.invokevirtual 82, 3) := by decide +kernel
theorem dX0_findCommon_133 : decode cX0_findCommon 133 = .ok (.return_, 1) := by decide +kernel
theorem dX0_commonOf_0 : decode cX0_commonOf 0 = .ok (.lload_n 0, 1) := by decide +kernel
theorem dX0_commonOf_1 : decode cX0_commonOf 1 = .ok (.lstore 4, 2) := by decide +kernel
theorem dX0_commonOf_3 : decode cX0_commonOf 3 = .ok (.lload_n 2, 1) := by decide +kernel
theorem dX0_commonOf_4 : decode cX0_commonOf 4 = .ok (.lstore 6, 2) := by decide +kernel
theorem dX0_commonOf_6 : decode cX0_commonOf 6 = .ok (.iconst 0, 1) := by decide +kernel
theorem dX0_commonOf_7 : decode cX0_commonOf 7 = .ok (.istore 8, 2) := by decide +kernel
theorem dX0_commonOf_9 : decode cX0_commonOf 9 = .ok (.iload 8, 2) := by decide +kernel
theorem dX0_commonOf_11 : decode cX0_commonOf 11 = .ok (.ldc 119, 2) := by decide +kernel
theorem dX0_commonOf_13 : decode cX0_commonOf 13 = .ok (.if_icmp .ge 31, 3) := by decide +kernel
theorem dX0_commonOf_16 : decode cX0_commonOf 16 = .ok (.lload 6, 2) := by decide +kernel
theorem dX0_commonOf_18 : decode cX0_commonOf 18 = .ok (.lconst 0, 1) := by decide +kernel
theorem dX0_commonOf_19 : decode cX0_commonOf 19 = .ok (.lcmp, 1) := by decide +kernel
theorem dX0_commonOf_20 : decode cX0_commonOf 20 = .ok (.ifCond .eq 24, 3) := by decide +kernel
theorem dX0_commonOf_23 : decode cX0_commonOf 23 = .ok (.lload 4, 2) := by decide +kernel
theorem dX0_commonOf_25 : decode cX0_commonOf 25 = .ok (.lload 6, 2) := by decide +kernel
theorem dX0_commonOf_27 : decode cX0_commonOf 27 = .ok (.lrem, 1) := by decide +kernel
theorem dX0_commonOf_28 : decode cX0_commonOf 28 = .ok (.lstore 9, 2) := by decide +kernel
theorem dX0_commonOf_30 : decode cX0_commonOf 30 = .ok (.lload 6, 2) := by decide +kernel
theorem dX0_commonOf_32 : decode cX0_commonOf 32 = .ok (.lstore 4, 2) := by decide +kernel
theorem dX0_commonOf_34 : decode cX0_commonOf 34 = .ok (.lload 9, 2) := by decide +kernel
theorem dX0_commonOf_36 : decode cX0_commonOf 36 = .ok (.lstore 6, 2) := by decide +kernel
theorem dX0_commonOf_38 : decode cX0_commonOf 38 = .ok (.iinc 8 1, 3) := by decide +kernel
theorem dX0_commonOf_41 : decode cX0_commonOf 41 = .ok (.goto (-32), 3) := by decide +kernel
theorem dX0_commonOf_44 : decode cX0_commonOf 44 = .ok (.lload 4, 2) := by decide +kernel
theorem dX0_commonOf_46 : decode cX0_commonOf 46 = .ok (.lreturn, 1) := by decide +kernel
theorem dX0_haveNothingCommon_0 : decode cX0_haveNothingCommon 0 = .ok (.aload_n 0, 1) := by decide +kernel
theorem dX0_haveNothingCommon_1 : decode cX0_haveNothingCommon 1 = .ok (.aload_n 1, 1) := by decide +kernel
theorem dX0_haveNothingCommon_2 : decode cX0_haveNothingCommon 2 = .ok (.aload_n 2, 1) := by decide +kernel
theorem dX0_haveNothingCommon_3 : decode cX0_haveNothingCommon 3 = .ok (.invokevirtual 128, 3) := by decide +kernel
theorem dX0_haveNothingCommon_6 : decode cX0_haveNothingCommon 6 = .ok (.aload_n 0, 1) := by decide +kernel
theorem dX0_haveNothingCommon_7 : decode cX0_haveNothingCommon 7 = .ok (.getfield 25, 3) := by decide +kernel
theorem dX0_haveNothingCommon_10 : decode cX0_haveNothingCommon 10 = .ok (.invokevirtual 116, 3) := by decide +kernel
theorem dX0_haveNothingCommon_13 : decode cX0_haveNothingCommon 13 = .ok (.ireturn, 1) := by decide +kernel
theorem dX0_cut_0 : decode cX0_cut 0 = .ok (.aload_n 0, 1) := by decide +kernel
theorem dX0_cut_1 : decode cX0_cut 1 = .ok (.getfield 25, 3) := by decide +kernel
theorem dX0_cut_4 : decode cX0_cut 4 = .ok (.invokevirtual 116, 3) := by decide +kernel
theorem dX0_cut_7 : decode cX0_cut 7 = .ok (.ifCond .eq 9, 3) := by decide +kernel
theorem dX0_cut_10 : decode cX0_cut 10 = .ok (.aload_n 2, 1) := by decide +kernel
theorem dX0_cut_11 : decode cX0_cut 11 = .ok (.aload_n 1, 1) := by decide +kernel
theorem dX0_cut_12 : decode cX0_cut 12 = .ok (.invokevirtual 82, 3) := by decide +kernel
theorem dX0_cut_15 : decode cX0_cut 15 = .ok (.return_, 1) := by decide +kernel
theorem dX0_cut_16 : decode cX0_cut 16 = .ok (.aload_n 0, 1) := by decide +kernel
theorem dX0_cut_17 : decode cX0_cut 17 = .ok (.getfield 28, 3) := by decide +kernel
theorem dX0_cut_20 : decode cX0_cut 20 = .ok (.aload_n 1, 1) := by decide +kernel
theorem dX0_cut_21 : decode cX0_cut 21 = .ok (.invokevirtual 82, 3) := by decide +kernel
theorem dX0_cut_24 : decode cX0_cut 24 = .ok (.aload_n 0, 1) := by decide +kernel
theorem dX0_cut_25 : decode cX0_cut 25 = .ok (.aload_n 0, 1) := by decide +kernel
theorem dX0_cut_26 : decode cX0_cut 26 = .ok (.getfield 28, 3) := by decide +kernel
theorem dX0_cut_29 : decode cX0_cut 29 = .ok (.aload_n 0, 1) := by decide +kernel
theorem dX0_cut_30 : decode cX0_cut 30 = .ok (.getfield 25, 3) := by decide +kernel
theorem dX0_cut_33 : decode cX0_cut 33 = .ok (.aload_n 2, 1) := by decide +kernel
theorem dX0_cut_34 : decode cX0_cut 34 = .ok (.invokevirtual 124, 3) := by decide +kernel
theorem dX0_cut_37 : decode cX0_cut 37 = .ok (.return_, 1) := by decide +kernel
theorem dX0_setRatio_0 : decode cX0_setRatio 0 = .ok (.aload_n 0, 1) := by decide +kernel
theorem dX0_setRatio_1 : decode cX0_setRatio 1 = .ok (.getfield 31, 3) := by decide +kernel
theorem dX0_setRatio_4 : decode cX0_setRatio 4 = .ok (.lload_n 1, 1) := by decide +kernel
theorem dX0_setRatio_5 : decode cX0_setRatio 5 = .ok (.invokestatic 132, 3) := by decide +kernel
theorem dX0_setRatio_8 : decode cX0_setRatio 8 = .ok (.invokevirtual 49, 3) := by decide +kernel
theorem dX0_setRatio_11 : decode cX0_setRatio 11 = .ok (.aload_n 0, 1) := by decide +kernel
theorem dX0_setRatio_12 : decode cX0_setRatio 12 = .ok (.getfield 34, 3) := by decide +kernel
theorem dX0_setRatio_15 : decode cX0_setRatio 15 = .ok (.lload_n 3, 1) := by decide +kernel
theorem dX0_setRatio_16 : decode cX0_setRatio 16 = .ok (.invokestatic 132, 3) := by decide +kernel
theorem dX0_setRatio_19 : decode cX0_setRatio 19 = .ok (.invokevirtual 49, 3) := by decide +kernel
theorem dX0_setRatio_22 : decode cX0_setRatio 22 = .ok (.aload_n 0, 1) := by decide +kernel
theorem dX0_setRatio_23 : decode cX0_setRatio 23 = .ok (.aload_n 0, 1) := by decide +kernel
theorem dX0_setRatio_24 : decode cX0_setRatio 24 = .ok (.getfield 31, 3) := by decide +kernel
theorem dX0_setRatio_27 : decode cX0_setRatio 27 = .ok (.aload_n 0, 1) := by decide +kernel
theorem dX0_setRatio_28 : decode cX0_setRatio 28 = .ok (.getfield 34, 3) := by decide +kernel
theorem dX0_setRatio_31 : decode cX0_setRatio 31 = .ok (.invokevirtual 128, 3) := by decide +kernel
theorem dX0_setRatio_34 : decode cX0_setRatio 34 = .ok (.aload_n 0, 1) := by decide +kernel
theorem dX0_setRatio_35 : decode cX0_setRatio 35 = .ok (.aload_n 0, 1) := by decide +kernel
theorem dX0_setRatio_36 : decode cX0_setRatio 36 = .ok (.getfield 31, 3) := by decide +kernel
theorem dX0_setRatio_39 : decode cX0_setRatio 39 = .ok (.aload 5, 2) := by decide +kernel
theorem dX0_setRatio_41 : decode cX0_setRatio 41 = .ok (.getfield 136, 3) := by decide +kernel
theorem dX0_setRatio_44 : decode cX0_setRatio 44 = .ok (.invokevirtual 141, 3) := by decide +kernel
theorem dX0_setRatio_47 : decode cX0_setRatio 47 = .ok (.aload_n 0, 1) := by decide +kernel
theorem dX0_setRatio_48 : decode cX0_setRatio 48 = .ok (.aload_n 0, 1) := by decide +kernel
theorem dX0_setRatio_49 : decode cX0_setRatio 49 = .ok (.getfield 34, 3) := by decide +kernel
theorem dX0_setRatio_52 : decode cX0_setRatio 52 = .ok (.aload 5, 2) := by decide +kernel
theorem dX0_setRatio_54 : decode cX0_setRatio 54 = .ok (.getfield 144, 3) := by decide +kernel
theorem dX0_setRatio_57 : decode cX0_setRatio 57 = .ok (.invokevirtual 141, 3) := by decide +kernel
theorem dX0_setRatio_60 : decode cX0_setRatio 60 = .ok (.aload 5, 2) := by decide +kernel
theorem dX0_setRatio_62 : decode cX0_setRatio 62 = .ok (.lload_n 1, 1) := by decide +kernel
theorem dX0_setRatio_63 : decode cX0_setRatio 63 = .ok (.lconst 0, 1) := by decide +kernel
theorem dX0_setRatio_64 : decode cX0_setRatio 64 = .ok (.lcmp, 1) := by decide +kernel
theorem dX0_setRatio_65 : decode cX0_setRatio 65 = .ok (.ifCond .eq 32, 3) := by decide +kernel
theorem dX0_setRatio_68 : decode cX0_setRatio 68 = .ok (.lload_n 1, 1) := by decide +kernel
theorem dX0_setRatio_69 : decode cX0_setRatio 69 = .ok (.lconst 0, 1) := by decide +kernel
theorem dX0_setRatio_70 : decode cX0_setRatio 70 = .ok (.lcmp, 1) := by decide +kernel
theorem dX0_setRatio_71 : decode cX0_setRatio 71 = .ok (.ifCond .ge 7, 3) := by decide +kernel
theorem dX0_setRatio_74 : decode cX0_setRatio 74 = .ok (.iconst 1, 1) := by decide +kernel
theorem dX0_setRatio_75 : decode cX0_setRatio 75 = .ok (.goto 4, 3) := by decide +kernel
theorem dX0_setRatio_78 : decode cX0_setRatio 78 = .ok (.iconst 0, 1) := by decide +kernel
theorem dX0_setRatio_79 : decode cX0_setRatio 79 = .ok (.lload_n 3, 1) := by decide +kernel
theorem dX0_setRatio_80 : decode cX0_setRatio 80 = .ok (.lconst 0, 1) := by decide +kernel
theorem dX0_setRatio_81 : decode cX0_setRatio 81 = .ok (.lcmp, 1) := by decide +kernel
theorem dX0_setRatio_82 : decode cX0_setRatio 82 = .ok (.ifCond .ge 7, 3) := by decide +kernel
theorem dX0_setRatio_85 : decode cX0_setRatio 85 = .ok (.iconst 1, 1) := by decide +kernel
theorem dX0_setRatio_86 : decode cX0_setRatio 86 = .ok (.goto 4, 3) := by decide +kernel
theorem dX0_setRatio_89 : decode cX0_setRatio 89 = .ok (.iconst 0, 1) := by decide +kernel
theorem dX0_setRatio_90 : decode cX0_setRatio 90 = .ok (.if_icmp .eq 7, 3) := by decide +kernel
theorem dX0_setRatio_93 : decode cX0_setRatio 93 = .ok (.iconst 1, 1) := by decide +kernel
theorem dX0_setRatio_94 : decode cX0_setRatio 94 = .ok (.goto 4, 3) := by decide +kernel
theorem dX0_setRatio_97 : decode cX0_setRatio 97 = .ok (.iconst 0, 1) := by decide +kernel
theorem dX0_setRatio_98 : decode cX0_setRatio 98 = .ok (.putfield 147, 3) := by decide +kernel
theorem dX0_setRatio_101 : decode cX0_setRatio 101 = .ok (.return_, 1) := by decide +kernel
theorem dX0_add_0 : decode cX0_add 0 = .ok (.aload_n 0, 1) := by decide +kernel
theorem dX0_add_1 : decode cX0_add 1 = .ok (.aload_n 1, 1) := by decide +kernel
theorem dX0_add_2 : decode cX0_add 2 = .ok (.getfield 144, 3) := by decide +kernel
theorem dX0_add_5 : decode cX0_add 5 = .ok (.aload_n 2, 1) := by decide +kernel
theorem dX0_add_6 : decode cX0_add 6 = .ok (.getfield 144, 3) := by decide +kernel
theorem dX0_add_9 : decode cX0_add 9 = .ok (.invokevirtual 128, 3) := by decide +kernel
theorem dX0_add_12 : decode cX0_add 12 = .ok (.aload_n 0, 1) := by decide +kernel
theorem dX0_add_13 : decode cX0_add 13 = .ok (.aload_n 1, 1) := by decide +kernel
theorem dX0_add_14 : decode cX0_add 14 = .ok (.getfield 144, 3) := by decide +kernel
theorem dX0_add_17 : decode cX0_add 17 = .ok (.aload_n 0, 1) := by decide +kernel
theorem dX0_add_18 : decode cX0_add 18 = .ok (.getfield 43, 3) := by decide +kernel
theorem dX0_add_21 : decode cX0_add 21 = .ok (.invokevirtual 141, 3) := by decide +kernel
theorem dX0_add_24 : decode cX0_add 24 = .ok (.aload_n 0, 1) := by decide +kernel
theorem dX0_add_25 : decode cX0_add 25 = .ok (.aload_n 2, 1) := by decide +kernel
theorem dX0_add_26 : decode cX0_add 26 = .ok (.getfield 144, 3) := by decide +kernel
theorem dX0_add_29 : decode cX0_add 29 = .ok (.aload_n 0, 1) := by decide +kernel
theorem dX0_add_30 : decode cX0_add 30 = .ok (.getfield 46, 3) := by decide +kernel
theorem dX0_add_33 : decode cX0_add 33 = .ok (.invokevirtual 141, 3) := by decide +kernel
theorem dX0_add_36 : decode cX0_add 36 = .ok (.aload_n 0, 1) := by decide +kernel
theorem dX0_add_37 : decode cX0_add 37 = .ok (.getfield 37, 3) := by decide +kernel
theorem dX0_add_40 : decode cX0_add 40 = .ok (.aload_n 1, 1) := by decide +kernel
theorem dX0_add_41 : decode cX0_add 41 = .ok (.getfield 136, 3) := by decide +kernel
theorem dX0_add_44 : decode cX0_add 44 = .ok (.aload_n 0, 1) := by decide +kernel
theorem dX0_add_45 : decode cX0_add 45 = .ok (.getfield 46, 3) := by decide +kernel
theorem dX0_add_48 : decode cX0_add 48 = .ok (.invokevirtual 151, 3) := by decide +kernel
theorem dX0_add_51 : decode cX0_add 51 = .ok (.aload_n 0, 1) := by decide +kernel
theorem dX0_add_52 : decode cX0_add 52 = .ok (.getfield 40, 3) := by decide +kernel
theorem dX0_add_55 : decode cX0_add 55 = .ok (.aload_n 2, 1) := by decide +kernel
theorem dX0_add_56 : decode cX0_add 56 = .ok (.getfield 136, 3) := by decide +kernel
theorem dX0_add_59 : decode cX0_add 59 = .ok (.aload_n 0, 1) := by decide +kernel
theorem dX0_add_60 : decode cX0_add 60 = .ok (.getfield 43, 3) := by decide +kernel
theorem dX0_add_63 : decode cX0_add 63 = .ok (.invokevirtual 151, 3) := by decide +kernel
theorem dX0_add_66 : decode cX0_add 66 = .ok (.aload_n 0, 1) := by decide +kernel
theorem dX0_add_67 : decode cX0_add 67 = .ok (.aload_n 1, 1) := by decide +kernel
theorem dX0_add_68 : decode cX0_add 68 = .ok (.getfield 147, 3) := by decide +kernel
theorem dX0_add_71 : decode cX0_add 71 = .ok (.aload_n 2, 1) := by decide +kernel
theorem dX0_add_72 : decode cX0_add 72 = .ok (.getfield 147, 3) := by decide +kernel
theorem dX0_add_75 : decode cX0_add 75 = .ok (.iload_n 3, 1) := by decide +kernel
theorem dX0_add_76 : decode cX0_add 76 = .ok (.if_icmp .eq 7, 3) := by decide +kernel
theorem dX0_add_79 : decode cX0_add 79 = .ok (.iconst 1, 1) := by decide +kernel
theorem dX0_add_80 : decode cX0_add 80 = .ok (.goto 4, 3) := by decide +kernel
theorem dX0_add_83 : decode cX0_add 83 = .ok (.iconst 0, 1) := by decide +kernel
theorem dX0_add_84 : decode cX0_add 84 = .ok (.invokevirtual 154, 3) := by decide +kernel
theorem dX0_add_87 : decode cX0_add 87 = .ok (.istore 5, 2) := by decide +kernel
theorem dX0_add_89 : decode cX0_add 89 = .ok (.aload_n 0, 1) := by decide +kernel
theorem dX0_add_90 : decode cX0_add 90 = .ok (.aload_n 0, 1) := by decide +kernel
theorem dX0_add_91 : decode cX0_add 91 = .ok (.getfield 31, 3) := by decide +kernel
theorem dX0_add_94 : decode cX0_add 94 = .ok (.aload_n 0, 1) := by decide +kernel
theorem dX0_add_95 : decode cX0_add 95 = .ok (.getfield 25, 3) := by decide +kernel
theorem dX0_add_98 : decode cX0_add 98 = .ok (.invokevirtual 128, 3) := by decide +kernel
theorem dX0_add_101 : decode cX0_add 101 = .ok (.aload_n 0, 1) := by decide +kernel
theorem dX0_add_102 : decode cX0_add 102 = .ok (.aload_n 2, 1) := by decide +kernel
theorem dX0_add_103 : decode cX0_add 103 = .ok (.getfield 144, 3) := by decide +kernel
theorem dX0_add_106 : decode cX0_add 106 = .ok (.aload_n 0, 1) := by decide +kernel
theorem dX0_add_107 : decode cX0_add 107 = .ok (.getfield 46, 3) := by decide +kernel
theorem dX0_add_110 : decode cX0_add 110 = .ok (.invokevirtual 141, 3) := by decide +kernel
theorem dX0_add_113 : decode cX0_add 113 = .ok (.aload_n 0, 1) := by decide +kernel
theorem dX0_add_114 : decode cX0_add 114 = .ok (.aload_n 0, 1) := by decide +kernel
theorem dX0_add_115 : decode cX0_add 115 = .ok (.getfield 31, 3) := by decide +kernel
theorem dX0_add_118 : decode cX0_add 118 = .ok (.aload_n 0, 1) := by decide +kernel
theorem dX0_add_119 : decode cX0_add 119 = .ok (.getfield 37, 3) := by decide +kernel
theorem dX0_add_122 : decode cX0_add 122 = .ok (.invokevirtual 141, 3) := by decide +kernel
theorem dX0_add_125 : decode cX0_add 125 = .ok (.aload_n 0, 1) := by decide +kernel
theorem dX0_add_126 : decode cX0_add 126 = .ok (.getfield 34, 3) := by decide +kernel
theorem dX0_add_129 : decode cX0_add 129 = .ok (.aload_n 0, 1) := by decide +kernel
theorem dX0_add_130 : decode cX0_add 130 = .ok (.getfield 43, 3) := by decide +kernel
theorem dX0_add_133 : decode cX0_add 133 = .ok (.aload_n 0, 1) := by decide +kernel
theorem dX0_add_134 : decode cX0_add 134 = .ok (.getfield 46, 3) := by decide +kernel
theorem dX0_add_137 : decode cX0_add 137 = .ok (.invokevirtual 151, 3) := by decide +kernel
theorem dX0_add_140 : decode cX0_add 140 = .ok (.aload_n 0, 1) := by decide +kernel
theorem dX0_add_141 : decode cX0_add 141 = .ok (.iload 5, 2) := by decide +kernel
theorem dX0_add_143 : decode cX0_add 143 = .ok (.aload_n 0, 1) := by decide +kernel
theorem dX0_add_144 : decode cX0_add 144 = .ok (.getfield 37, 3) := by decide +kernel
theorem dX0_add_147 : decode cX0_add 147 = .ok (.aload_n 0, 1) := by decide +kernel
theorem dX0_add_148 : decode cX0_add 148 = .ok (.getfield 34, 3) := by decide +kernel
theorem dX0_add_151 : decode cX0_add 151 = .ok (.aload 4, 2) := by decide +kernel
theorem dX0_add_153 : decode cX0_add 153 = .ok (.invokevirtual 158, 3) := by decide +kernel
theorem dX0_add_156 : decode cX0_add 156 = .ok (.ireturn, 1) := by decide +kernel
theorem dX0_joinUppers_0 : decode cX0_joinUppers 0 = .ok (.iload_n 1, 1) := by decide +kernel
theorem dX0_joinUppers_1 : decode cX0_joinUppers 1 = .ok (.iload_n 2, 1) := by decide +kernel
theorem dX0_joinUppers_2 : decode cX0_joinUppers 2 = .ok (.if_icmp .ne 27, 3) := by decide +kernel
theorem dX0_joinUppers_5 : decode cX0_joinUppers 5 = .ok (.aload_n 0, 1) := by decide +kernel
theorem dX0_joinUppers_6 : decode cX0_joinUppers 6 = .ok (.getfield 31, 3) := by decide +kernel
theorem dX0_joinUppers_9 : decode cX0_joinUppers 9 = .ok (.aload_n 0, 1) := by decide +kernel
theorem dX0_joinUppers_10 : decode cX0_joinUppers 10 = .ok (.getfield 37, 3) := by decide +kernel
theorem dX0_joinUppers_13 : decode cX0_joinUppers 13 = .ok (.invokevirtual 82, 3) := by decide +kernel
theorem dX0_joinUppers_16 : decode cX0_joinUppers 16 = .ok (.aload_n 0, 1) := by decide +kernel
theorem dX0_joinUppers_17 : decode cX0_joinUppers 17 = .ok (.getfield 31, 3) := by decide +kernel
theorem dX0_joinUppers_20 : decode cX0_joinUppers 20 = .ok (.aload_n 0, 1) := by decide +kernel
theorem dX0_joinUppers_21 : decode cX0_joinUppers 21 = .ok (.getfield 40, 3) := by decide +kernel
theorem dX0_joinUppers_24 : decode cX0_joinUppers 24 = .ok (.invokevirtual 162, 3) := by decide +kernel
theorem dX0_joinUppers_27 : decode cX0_joinUppers 27 = .ok (.iload_n 1, 1) := by decide +kernel
theorem dX0_joinUppers_28 : decode cX0_joinUppers 28 = .ok (.ireturn, 1) := by decide +kernel
theorem dX0_joinUppers_29 : decode cX0_joinUppers 29 = .ok (.aload_n 0, 1) := by decide +kernel
theorem dX0_joinUppers_30 : decode cX0_joinUppers 30 = .ok (.getfield 37, 3) := by decide +kernel
theorem dX0_joinUppers_33 : decode cX0_joinUppers 33 = .ok (.aload_n 0, 1) := by decide +kernel
theorem dX0_joinUppers_34 : decode cX0_joinUppers 34 = .ok (.getfield 40, 3) := by decide +kernel
theorem dX0_joinUppers_37 : decode cX0_joinUppers 37 = .ok (.invokevirtual 57, 3) := by decide +kernel
theorem dX0_joinUppers_40 : decode cX0_joinUppers 40 = .ok (.ifCond .lt 27, 3) := by decide +kernel
theorem dX0_joinUppers_43 : decode cX0_joinUppers 43 = .ok (.aload_n 0, 1) := by decide +kernel
theorem dX0_joinUppers_44 : decode cX0_joinUppers 44 = .ok (.getfield 31, 3) := by decide +kernel
theorem dX0_joinUppers_47 : decode cX0_joinUppers 47 = .ok (.aload_n 0, 1) := by decide +kernel
theorem dX0_joinUppers_48 : decode cX0_joinUppers 48 = .ok (.getfield 37, 3) := by decide +kernel
theorem dX0_joinUppers_51 : decode cX0_joinUppers 51 = .ok (.invokevirtual 82, 3) := by decide +kernel
theorem dX0_joinUppers_54 : decode cX0_joinUppers 54 = .ok (.aload_n 0, 1) := by decide +kernel
theorem dX0_joinUppers_55 : decode cX0_joinUppers 55 = .ok (.getfield 31, 3) := by decide +kernel
theorem dX0_joinUppers_58 : decode cX0_joinUppers 58 = .ok (.aload_n 0, 1) := by decide +kernel
theorem dX0_joinUppers_59 : decode cX0_joinUppers 59 = .ok (.getfield 40, 3) := by decide +kernel
theorem dX0_joinUppers_62 : decode cX0_joinUppers 62 = .ok (.invokevirtual 165, 3) := by decide +kernel
theorem dX0_joinUppers_65 : decode cX0_joinUppers 65 = .ok (.iload_n 1, 1) := by decide +kernel
theorem dX0_joinUppers_66 : decode cX0_joinUppers 66 = .ok (.ireturn, 1) := by decide +kernel
theorem dX0_joinUppers_67 : decode cX0_joinUppers 67 = .ok (.aload_n 0, 1) := by decide +kernel
theorem dX0_joinUppers_68 : decode cX0_joinUppers 68 = .ok (.getfield 31, 3) := by decide +kernel
theorem dX0_joinUppers_71 : decode cX0_joinUppers 71 = .ok (.aload_n 0, 1) := by decide +kernel
theorem dX0_joinUppers_72 : decode cX0_joinUppers 72 = .ok (.getfield 40, 3) := by decide +kernel
theorem dX0_joinUppers_75 : decode cX0_joinUppers 75 = .ok (.invokevirtual 82, 3) := by decide +kernel
theorem dX0_joinUppers_78 : decode cX0_joinUppers 78 = .ok (.aload_n 0, 1) := by decide +kernel
theorem dX0_joinUppers_79 : decode cX0_joinUppers 79 = .ok (.getfield 31, 3) := by decide +kernel
theorem dX0_joinUppers_82 : decode cX0_joinUppers 82 = .ok (.aload_n 0, 1) := by decide +kernel
theorem dX0_joinUppers_83 : decode cX0_joinUppers 83 = .ok (.getfield 37, 3) := by decide +kernel
theorem dX0_joinUppers_86 : decode cX0_joinUppers 86 = .ok (.invokevirtual 165, 3) := by decide +kernel
theorem dX0_joinUppers_89 : decode cX0_joinUppers 89 = .ok (.iload_n 2, 1) := by decide +kernel
theorem dX0_joinUppers_90 : decode cX0_joinUppers 90 = .ok (.ireturn, 1) := by decide +kernel
theorem dX0_multiply_0 : decode cX0_multiply 0 = .ok (.iload_n 3, 1) := by decide +kernel
theorem dX0_multiply_1 : decode cX0_multiply 1 = .ok (.ifCond .eq 10, 3) := by decide +kernel
theorem dX0_multiply_4 : decode cX0_multiply 4 = .ok (.aload_n 2, 1) := by decide +kernel
theorem dX0_multiply_5 : decode cX0_multiply 5 = .ok (.getfield 144, 3) := by decide +kernel
theorem dX0_multiply_8 : decode cX0_multiply 8 = .ok (.goto 7, 3) := by decide +kernel
theorem dX0_multiply_11 : decode cX0_multiply 11 = .ok (.aload_n 2, 1) := by decide +kernel
theorem dX0_multiply_12 : decode cX0_multiply 12 = .ok (.getfield 136, 3) := by decide +kernel
theorem dX0_multiply_15 : decode cX0_multiply 15 = .ok (.astore 5, 2) := by decide +kernel
theorem dX0_multiply_17 : decode cX0_multiply 17 = .ok (.iload_n 3, 1) := by decide +kernel
theorem dX0_multiply_18 : decode cX0_multiply 18 = .ok (.ifCond .eq 10, 3) := by decide +kernel
theorem dX0_multiply_21 : decode cX0_multiply 21 = .ok (.aload_n 2, 1) := by decide +kernel
theorem dX0_multiply_22 : decode cX0_multiply 22 = .ok (.getfield 136, 3) := by decide +kernel
theorem dX0_multiply_25 : decode cX0_multiply 25 = .ok (.goto 7, 3) := by decide +kernel
theorem dX0_multiply_28 : decode cX0_multiply 28 = .ok (.aload_n 2, 1) := by decide +kernel
theorem dX0_multiply_29 : decode cX0_multiply 29 = .ok (.getfield 144, 3) := by decide +kernel
theorem dX0_multiply_32 : decode cX0_multiply 32 = .ok (.astore 6, 2) := by decide +kernel
theorem dX0_multiply_34 : decode cX0_multiply 34 = .ok (.aload_n 0, 1) := by decide +kernel
theorem dX0_multiply_35 : decode cX0_multiply 35 = .ok (.aload_n 1, 1) := by decide +kernel
theorem dX0_multiply_36 : decode cX0_multiply 36 = .ok (.getfield 136, 3) := by decide +kernel
theorem dX0_multiply_39 : decode cX0_multiply 39 = .ok (.aload 6, 2) := by decide +kernel
theorem dX0_multiply_41 : decode cX0_multiply 41 = .ok (.invokevirtual 128, 3) := by decide +kernel
theorem dX0_multiply_44 : decode cX0_multiply 44 = .ok (.aload_n 0, 1) := by decide +kernel
theorem dX0_multiply_45 : decode cX0_multiply 45 = .ok (.aload_n 1, 1) := by decide +kernel
theorem dX0_multiply_46 : decode cX0_multiply 46 = .ok (.getfield 136, 3) := by decide +kernel
theorem dX0_multiply_49 : decode cX0_multiply 49 = .ok (.aload_n 0, 1) := by decide +kernel
theorem dX0_multiply_50 : decode cX0_multiply 50 = .ok (.getfield 37, 3) := by decide +kernel
theorem dX0_multiply_53 : decode cX0_multiply 53 = .ok (.invokevirtual 141, 3) := by decide +kernel
theorem dX0_multiply_56 : decode cX0_multiply 56 = .ok (.aload_n 0, 1) := by decide +kernel
theorem dX0_multiply_57 : decode cX0_multiply 57 = .ok (.aload 6, 2) := by decide +kernel
theorem dX0_multiply_59 : decode cX0_multiply 59 = .ok (.aload_n 0, 1) := by decide +kernel
theorem dX0_multiply_60 : decode cX0_multiply 60 = .ok (.getfield 46, 3) := by decide +kernel
theorem dX0_multiply_63 : decode cX0_multiply 63 = .ok (.invokevirtual 141, 3) := by decide +kernel
theorem dX0_multiply_66 : decode cX0_multiply 66 = .ok (.aload_n 0, 1) := by decide +kernel
theorem dX0_multiply_67 : decode cX0_multiply 67 = .ok (.aload 5, 2) := by decide +kernel
theorem dX0_multiply_69 : decode cX0_multiply 69 = .ok (.aload_n 1, 1) := by decide +kernel
theorem dX0_multiply_70 : decode cX0_multiply 70 = .ok (.getfield 144, 3) := by decide +kernel
theorem dX0_multiply_73 : decode cX0_multiply 73 = .ok (.invokevirtual 128, 3) := by decide +kernel
theorem dX0_multiply_76 : decode cX0_multiply 76 = .ok (.aload_n 0, 1) := by decide +kernel
theorem dX0_multiply_77 : decode cX0_multiply 77 = .ok (.aload 5, 2) := by decide +kernel
theorem dX0_multiply_79 : decode cX0_multiply 79 = .ok (.aload_n 0, 1) := by decide +kernel
theorem dX0_multiply_80 : decode cX0_multiply 80 = .ok (.getfield 40, 3) := by decide +kernel
theorem dX0_multiply_83 : decode cX0_multiply 83 = .ok (.invokevirtual 141, 3) := by decide +kernel
theorem dX0_multiply_86 : decode cX0_multiply 86 = .ok (.aload_n 0, 1) := by decide +kernel
theorem dX0_multiply_87 : decode cX0_multiply 87 = .ok (.aload_n 1, 1) := by decide +kernel
theorem dX0_multiply_88 : decode cX0_multiply 88 = .ok (.getfield 144, 3) := by decide +kernel
theorem dX0_multiply_91 : decode cX0_multiply 91 = .ok (.aload_n 0, 1) := by decide +kernel
theorem dX0_multiply_92 : decode cX0_multiply 92 = .ok (.getfield 43, 3) := by decide +kernel
theorem dX0_multiply_95 : decode cX0_multiply 95 = .ok (.invokevirtual 141, 3) := by decide +kernel
theorem dX0_multiply_98 : decode cX0_multiply 98 = .ok (.aload_n 0, 1) := by decide +kernel
theorem dX0_multiply_99 : decode cX0_multiply 99 = .ok (.getfield 31, 3) := by decide +kernel
theorem dX0_multiply_102 : decode cX0_multiply 102 = .ok (.aload_n 0, 1) := by decide +kernel
theorem dX0_multiply_103 : decode cX0_multiply 103 = .ok (.getfield 37, 3) := by decide +kernel
theorem dX0_multiply_106 : decode cX0_multiply 106 = .ok (.aload_n 0, 1) := by decide +kernel
theorem dX0_multiply_107 : decode cX0_multiply 107 = .ok (.getfield 40, 3) := by decide +kernel
theorem dX0_multiply_110 : decode cX0_multiply 110 = .ok (.invokevirtual 151, 3) := by decide +kernel
theorem dX0_multiply_113 : decode cX0_multiply 113 = .ok (.aload_n 0, 1) := by decide +kernel
theorem dX0_multiply_114 : decode cX0_multiply 114 = .ok (.getfield 34, 3) := by decide +kernel
theorem dX0_multiply_117 : decode cX0_multiply 117 = .ok (.aload_n 0, 1) := by decide +kernel
theorem dX0_multiply_118 : decode cX0_multiply 118 = .ok (.getfield 43, 3) := by decide +kernel
theorem dX0_multiply_121 : decode cX0_multiply 121 = .ok (.aload_n 0, 1) := by decide +kernel
theorem dX0_multiply_122 : decode cX0_multiply 122 = .ok (.getfield 46, 3) := by decide +kernel
theorem dX0_multiply_125 : decode cX0_multiply 125 = .ok (.invokevirtual 151, 3) := by decide +kernel
theorem dX0_multiply_128 : decode cX0_multiply 128 = .ok (.aload_n 0, 1) := by decide +kernel
theorem dX0_multiply_129 : decode cX0_multiply 129 = .ok (.aload_n 1, 1) := by decide +kernel
theorem dX0_multiply_130 : decode cX0_multiply 130 = .ok (.getfield 147, 3) := by decide +kernel
theorem dX0_multiply_133 : decode cX0_multiply 133 = .ok (.aload_n 2, 1) := by decide +kernel
theorem dX0_multiply_134 : decode cX0_multiply 134 = .ok (.getfield 147, 3) := by decide +kernel
theorem dX0_multiply_137 : decode cX0_multiply 137 = .ok (.if_icmp .eq 7, 3) := by decide +kernel
theorem dX0_multiply_140 : decode cX0_multiply 140 = .ok (.iconst 1, 1) := by decide +kernel
theorem dX0_multiply_141 : decode cX0_multiply 141 = .ok (.goto 4, 3) := by decide +kernel
theorem dX0_multiply_144 : decode cX0_multiply 144 = .ok (.iconst 0, 1) := by decide +kernel
theorem dX0_multiply_145 : decode cX0_multiply 145 = .ok (.aload_n 0, 1) := by decide +kernel
theorem dX0_multiply_146 : decode cX0_multiply 146 = .ok (.getfield 31, 3) := by decide +kernel
theorem dX0_multiply_149 : decode cX0_multiply 149 = .ok (.aload_n 0, 1) := by decide +kernel
theorem dX0_multiply_150 : decode cX0_multiply 150 = .ok (.getfield 34, 3) := by decide +kernel
theorem dX0_multiply_153 : decode cX0_multiply 153 = .ok (.aload 4, 2) := by decide +kernel
theorem dX0_multiply_155 : decode cX0_multiply 155 = .ok (.invokevirtual 158, 3) := by decide +kernel
theorem dX0_multiply_158 : decode cX0_multiply 158 = .ok (.ireturn, 1) := by decide +kernel
theorem dX0_setWide_0 : decode cX0_setWide 0 = .ok (.aload_n 2, 1) := by decide +kernel
theorem dX0_setWide_1 : decode cX0_setWide 1 = .ok (.invokevirtual 168, 3) := by decide +kernel
theorem dX0_setWide_4 : decode cX0_setWide 4 = .ok (.ifCond .eq 10, 3) := by decide +kernel
theorem dX0_setWide_7 : decode cX0_setWide 7 = .ok (.aload_n 3, 1) := by decide +kernel
theorem dX0_setWide_8 : decode cX0_setWide 8 = .ok (.invokevirtual 168, 3) := by decide +kernel
theorem dX0_setWide_11 : decode cX0_setWide 11 = .ok (.ifCond .ne 5, 3) := by decide +kernel
theorem dX0_setWide_14 : decode cX0_setWide 14 = .ok (.iconst 0, 1) := by decide +kernel
theorem dX0_setWide_15 : decode cX0_setWide 15 = .ok (.ireturn, 1) := by decide +kernel
theorem dX0_setWide_16 : decode cX0_setWide 16 = .ok (.aload 4, 2) := by decide +kernel
theorem dX0_setWide_18 : decode cX0_setWide 18 = .ok (.iload_n 1, 1) := by decide +kernel
theorem dX0_setWide_19 : decode cX0_setWide 19 = .ok (.aload_n 2, 1) := by decide +kernel
theorem dX0_setWide_20 : decode cX0_setWide 20 = .ok (.aload_n 3, 1) := by decide +kernel
theorem dX0_setWide_21 : decode cX0_setWide 21 = .ok (.invokevirtual 171, 3) := by decide +kernel
theorem dX0_setWide_24 : decode cX0_setWide 24 = .ok (.iconst 1, 1) := by decide +kernel
theorem dX0_setWide_25 : decode cX0_setWide 25 = .ok (.ireturn, 1) := by decide +kernel
theorem dX0_order_0 : decode cX0_order 0 = .ok (.aload_n 1, 1) := by decide +kernel
theorem dX0_order_1 : decode cX0_order 1 = .ok (.getfield 147, 3) := by decide +kernel
theorem dX0_order_4 : decode cX0_order 4 = .ok (.aload_n 2, 1) := by decide +kernel
theorem dX0_order_5 : decode cX0_order 5 = .ok (.getfield 147, 3) := by decide +kernel
theorem dX0_order_8 : decode cX0_order 8 = .ok (.if_icmp .eq 16, 3) := by decide +kernel
theorem dX0_order_11 : decode cX0_order 11 = .ok (.aload_n 1, 1) := by decide +kernel
theorem dX0_order_12 : decode cX0_order 12 = .ok (.getfield 147, 3) := by decide +kernel
theorem dX0_order_15 : decode cX0_order 15 = .ok (.ifCond .eq 7, 3) := by decide +kernel
theorem dX0_order_18 : decode cX0_order 18 = .ok (.iconst (-1), 1) := by decide +kernel
theorem dX0_order_19 : decode cX0_order 19 = .ok (.goto 4, 3) := by decide +kernel
theorem dX0_order_22 : decode cX0_order 22 = .ok (.iconst 1, 1) := by decide +kernel
theorem dX0_order_23 : decode cX0_order 23 = .ok (.ireturn, 1) := by decide +kernel
theorem dX0_order_24 : decode cX0_order 24 = .ok (.aload_n 0, 1) := by decide +kernel
theorem dX0_order_25 : decode cX0_order 25 = .ok (.getfield 37, 3) := by decide +kernel
theorem dX0_order_28 : decode cX0_order 28 = .ok (.aload_n 1, 1) := by decide +kernel
theorem dX0_order_29 : decode cX0_order 29 = .ok (.getfield 136, 3) := by decide +kernel
theorem dX0_order_32 : decode cX0_order 32 = .ok (.aload_n 2, 1) := by decide +kernel
theorem dX0_order_33 : decode cX0_order 33 = .ok (.getfield 144, 3) := by decide +kernel
theorem dX0_order_36 : decode cX0_order 36 = .ok (.invokevirtual 151, 3) := by decide +kernel
theorem dX0_order_39 : decode cX0_order 39 = .ok (.aload_n 0, 1) := by decide +kernel
theorem dX0_order_40 : decode cX0_order 40 = .ok (.getfield 40, 3) := by decide +kernel
theorem dX0_order_43 : decode cX0_order 43 = .ok (.aload_n 2, 1) := by decide +kernel
theorem dX0_order_44 : decode cX0_order 44 = .ok (.getfield 136, 3) := by decide +kernel
theorem dX0_order_47 : decode cX0_order 47 = .ok (.aload_n 1, 1) := by decide +kernel
theorem dX0_order_48 : decode cX0_order 48 = .ok (.getfield 144, 3) := by decide +kernel
theorem dX0_order_51 : decode cX0_order 51 = .ok (.invokevirtual 151, 3) := by decide +kernel
theorem dX0_order_54 : decode cX0_order 54 = .ok (.aload_n 1, 1) := by decide +kernel
theorem dX0_order_55 : decode cX0_order 55 = .ok (.getfield 147, 3) := by decide +kernel
theorem dX0_order_58 : decode cX0_order 58 = .ok (.ifCond .eq 17, 3) := by decide +kernel
theorem dX0_order_61 : decode cX0_order 61 = .ok (.aload_n 0, 1) := by decide +kernel
theorem dX0_order_62 : decode cX0_order 62 = .ok (.getfield 40, 3) := by decide +kernel
theorem dX0_order_65 : decode cX0_order 65 = .ok (.aload_n 0, 1) := by decide +kernel
theorem dX0_order_66 : decode cX0_order 66 = .ok (.getfield 37, 3) := by decide +kernel
theorem dX0_order_69 : decode cX0_order 69 = .ok (.invokevirtual 57, 3) := by decide +kernel
theorem dX0_order_72 : decode cX0_order 72 = .ok (.goto 14, 3) := by decide +kernel
theorem dX0_order_75 : decode cX0_order 75 = .ok (.aload_n 0, 1) := by decide +kernel
theorem dX0_order_76 : decode cX0_order 76 = .ok (.getfield 37, 3) := by decide +kernel
theorem dX0_order_79 : decode cX0_order 79 = .ok (.aload_n 0, 1) := by decide +kernel
theorem dX0_order_80 : decode cX0_order 80 = .ok (.getfield 40, 3) := by decide +kernel
theorem dX0_order_83 : decode cX0_order 83 = .ok (.invokevirtual 57, 3) := by decide +kernel
theorem dX0_order_86 : decode cX0_order 86 = .ok (.ireturn, 1) := by decide +kernel
theorem dX1_init_0 : decode cX1_init 0 = .ok (.aload_n 0, 1) := by decide +kernel
theorem dX1_init_1 : decode cX1_init 1 = .ok (.invokespecial 1, 3) := by decide +kernel
theorem dX1_init_4 : decode cX1_init 4 = .ok (.aload_n 0, 1) := by decide +kernel
theorem dX1_init_5 : decode cX1_init 5 = .ok (.new 7, 3) := by decide +kernel
theorem dX1_init_8 : decode cX1_init 8 = .ok (.dup, 1) := by decide +kernel
theorem dX1_init_9 : decode cX1_init 9 = .ok (.invokespecial 9, 3) := by decide +kernel
theorem dX1_init_12 : decode cX1_init 12 = .ok (.putfield 10, 3) := by decide +kernel
theorem dX1_init_15 : decode cX1_init 15 = .ok (.aload_n 0, 1) := by decide +kernel
theorem dX1_init_16 : decode cX1_init 16 = .ok (.iload_n 1, 1) := by decide +kernel
theorem dX1_init_17 : decode cX1_init 17 = .ok (.putfield 16, 3) := by decide +kernel
theorem dX1_init_20 : decode cX1_init 20 = .ok (.aload_n 0, 1) := by decide +kernel
theorem dX1_init_21 : decode cX1_init 21 = .ok (.aload_n 2, 1) := by decide +kernel
theorem dX1_init_22 : decode cX1_init 22 = .ok (.putfield 20, 3) := by decide +kernel
theorem dX1_init_25 : decode cX1_init 25 = .ok (.aload_n 0, 1) := by decide +kernel
theorem dX1_init_26 : decode cX1_init 26 = .ok (.iload_n 1, 1) := by decide +kernel
theorem dX1_init_27 : decode cX1_init 27 = .ok (.newarray .int, 2) := by decide +kernel
theorem dX1_init_29 : decode cX1_init 29 = .ok (.putfield 24, 3) := by decide +kernel
theorem dX1_init_32 : decode cX1_init 32 = .ok (.return_, 1) := by decide +kernel
theorem dX1_multiplyPivots_0 : decode cX1_multiplyPivots 0 = .ok (.aload_n 2, 1) := by decide +kernel
theorem dX1_multiplyPivots_1 : decode cX1_multiplyPivots 1 = .ok (.invokevirtual 28, 3) := by decide +kernel
theorem dX1_multiplyPivots_4 : decode cX1_multiplyPivots 4 = .ok (.aload_n 1, 1) := by decide +kernel
theorem dX1_multiplyPivots_5 : decode cX1_multiplyPivots 5 = .ok (.getfield 31, 3) := by decide +kernel
theorem dX1_multiplyPivots_8 : decode cX1_multiplyPivots 8 = .ok (.aload_n 0, 1) := by decide +kernel
theorem dX1_multiplyPivots_9 : decode cX1_multiplyPivots 9 = .ok (.getfield 16, 3) := by decide +kernel
theorem dX1_multiplyPivots_12 : decode cX1_multiplyPivots 12 = .ok (.if_icmp .ge 5, 3) := by decide +kernel
theorem dX1_multiplyPivots_15 : decode cX1_multiplyPivots 15 = .ok (.iconst 1, 1) := by decide +kernel
theorem dX1_multiplyPivots_16 : decode cX1_multiplyPivots 16 = .ok (.ireturn, 1) := by decide +kernel
theorem dX1_multiplyPivots_17 : decode cX1_multiplyPivots 17 = .ok (.aload_n 2, 1) := by decide +kernel
theorem dX1_multiplyPivots_18 : decode cX1_multiplyPivots 18 = .ok (.aload_n 1, 1) := by decide +kernel
theorem dX1_multiplyPivots_19 : decode cX1_multiplyPivots 19 = .ok (.iconst 0, 1) := by decide +kernel
theorem dX1_multiplyPivots_20 : decode cX1_multiplyPivots 20 = .ok (.invokevirtual 36, 3) := by decide +kernel
theorem dX1_multiplyPivots_23 : decode cX1_multiplyPivots 23 = .ok (.invokevirtual 40, 3) := by decide +kernel
theorem dX1_multiplyPivots_26 : decode cX1_multiplyPivots 26 = .ok (.iconst 1, 1) := by decide +kernel
theorem dX1_multiplyPivots_27 : decode cX1_multiplyPivots 27 = .ok (.istore_n 3, 1) := by decide +kernel
theorem dX1_multiplyPivots_28 : decode cX1_multiplyPivots 28 = .ok (.iload_n 3, 1) := by decide +kernel
theorem dX1_multiplyPivots_29 : decode cX1_multiplyPivots 29 = .ok (.aload_n 0, 1) := by decide +kernel
theorem dX1_multiplyPivots_30 : decode cX1_multiplyPivots 30 = .ok (.getfield 16, 3) := by decide +kernel
theorem dX1_multiplyPivots_33 : decode cX1_multiplyPivots 33 = .ok (.if_icmp .ge 29, 3) := by decide +kernel
theorem dX1_multiplyPivots_36 : decode cX1_multiplyPivots 36 = .ok (.aload_n 0, 1) := by decide +kernel
theorem dX1_multiplyPivots_37 : decode cX1_multiplyPivots 37 = .ok (.getfield 20, 3) := by decide +kernel
theorem dX1_multiplyPivots_40 : decode cX1_multiplyPivots 40 = .ok (.aload_n 2, 1) := by decide +kernel
theorem dX1_multiplyPivots_41 : decode cX1_multiplyPivots 41 = .ok (.aload_n 1, 1) := by decide +kernel
theorem dX1_multiplyPivots_42 : decode cX1_multiplyPivots 42 = .ok (.iload_n 3, 1) := by decide +kernel
theorem dX1_multiplyPivots_43 : decode cX1_multiplyPivots 43 = .ok (.invokevirtual 36, 3) := by decide +kernel
theorem dX1_multiplyPivots_46 : decode cX1_multiplyPivots 46 = .ok (.iconst 0, 1) := by decide +kernel
theorem dX1_multiplyPivots_47 : decode cX1_multiplyPivots 47 = .ok (.aload_n 2, 1) := by decide +kernel
theorem dX1_multiplyPivots_48 : decode cX1_multiplyPivots 48 = .ok (.invokevirtual 44, 3) := by decide +kernel
theorem dX1_multiplyPivots_51 : decode cX1_multiplyPivots 51 = .ok (.ifCond .ne 5, 3) := by decide +kernel
theorem dX1_multiplyPivots_54 : decode cX1_multiplyPivots 54 = .ok (.iconst 0, 1) := by decide +kernel
theorem dX1_multiplyPivots_55 : decode cX1_multiplyPivots 55 = .ok (.ireturn, 1) := by decide +kernel
theorem dX1_multiplyPivots_56 : decode cX1_multiplyPivots 56 = .ok (.iinc 3 1, 3) := by decide +kernel
theorem dX1_multiplyPivots_59 : decode cX1_multiplyPivots 59 = .ok (.goto (-31), 3) := by decide +kernel
theorem dX1_multiplyPivots_62 : decode cX1_multiplyPivots 62 = .ok (.aload_n 1, 1) := by decide +kernel
theorem dX1_multiplyPivots_63 : decode cX1_multiplyPivots 63 = .ok (.getfield 50, 3) := by decide +kernel
theorem dX1_multiplyPivots_66 : decode cX1_multiplyPivots 66 = .ok (.ifCond .eq 7, 3) := by decide +kernel
theorem dX1_multiplyPivots_69 : decode cX1_multiplyPivots 69 = .ok (.aload_n 2, 1) := by decide +kernel
theorem dX1_multiplyPivots_70 : decode cX1_multiplyPivots 70 = .ok (.invokevirtual 54, 3) := by decide +kernel
theorem dX1_multiplyPivots_73 : decode cX1_multiplyPivots 73 = .ok (.iconst 1, 1) := by decide +kernel
theorem dX1_multiplyPivots_74 : decode cX1_multiplyPivots 74 = .ok (.ireturn, 1) := by decide +kernel
theorem dX1_addOrders_0 : decode cX1_addOrders 0 = .ok (.aload_n 2, 1) := by decide +kernel
theorem dX1_addOrders_1 : decode cX1_addOrders 1 = .ok (.invokevirtual 28, 3) := by decide +kernel
theorem dX1_addOrders_4 : decode cX1_addOrders 4 = .ok (.iconst 0, 1) := by decide +kernel
theorem dX1_addOrders_5 : decode cX1_addOrders 5 = .ok (.istore_n 3, 1) := by decide +kernel
theorem dX1_addOrders_6 : decode cX1_addOrders 6 = .ok (.iload_n 3, 1) := by decide +kernel
theorem dX1_addOrders_7 : decode cX1_addOrders 7 = .ok (.aload_n 0, 1) := by decide +kernel
theorem dX1_addOrders_8 : decode cX1_addOrders 8 = .ok (.getfield 16, 3) := by decide +kernel
theorem dX1_addOrders_11 : decode cX1_addOrders 11 = .ok (.if_icmp .ge 16, 3) := by decide +kernel
theorem dX1_addOrders_14 : decode cX1_addOrders 14 = .ok (.aload_n 0, 1) := by decide +kernel
theorem dX1_addOrders_15 : decode cX1_addOrders 15 = .ok (.getfield 24, 3) := by decide +kernel
theorem dX1_addOrders_18 : decode cX1_addOrders 18 = .ok (.iload_n 3, 1) := by decide +kernel
theorem dX1_addOrders_19 : decode cX1_addOrders 19 = .ok (.iload_n 3, 1) := by decide +kernel
theorem dX1_addOrders_20 : decode cX1_addOrders 20 = .ok (.iastore, 1) := by decide +kernel
theorem dX1_addOrders_21 : decode cX1_addOrders 21 = .ok (.iinc 3 1, 3) := by decide +kernel
theorem dX1_addOrders_24 : decode cX1_addOrders 24 = .ok (.goto (-18), 3) := by decide +kernel
theorem dX1_addOrders_27 : decode cX1_addOrders 27 = .ok (.iconst 0, 1) := by decide +kernel
theorem dX1_addOrders_28 : decode cX1_addOrders 28 = .ok (.istore_n 3, 1) := by decide +kernel
theorem dX1_addOrders_29 : decode cX1_addOrders 29 = .ok (.iload_n 3, 1) := by decide +kernel
theorem dX1_addOrders_30 : decode cX1_addOrders 30 = .ok (.bipush 120, 2) := by decide +kernel
theorem dX1_addOrders_32 : decode cX1_addOrders 32 = .ok (.if_icmp .ge 37, 3) := by decide +kernel
theorem dX1_addOrders_35 : decode cX1_addOrders 35 = .ok (.aload_n 0, 1) := by decide +kernel
theorem dX1_addOrders_36 : decode cX1_addOrders 36 = .ok (.aload_n 1, 1) := by decide +kernel
theorem dX1_addOrders_37 : decode cX1_addOrders 37 = .ok (.invokevirtual 57, 3) := by decide +kernel
theorem dX1_addOrders_40 : decode cX1_addOrders 40 = .ok (.ifCond .ne 14, 3) := by decide +kernel
theorem dX1_addOrders_43 : decode cX1_addOrders 43 = .ok (.aload_n 0, 1) := by decide +kernel
theorem dX1_addOrders_44 : decode cX1_addOrders 44 = .ok (.aload_n 1, 1) := by decide +kernel
theorem dX1_addOrders_45 : decode cX1_addOrders 45 = .ok (.aload_n 2, 1) := by decide +kernel
theorem dX1_addOrders_46 : decode cX1_addOrders 46 = .ok (.invokevirtual 61, 3) := by decide +kernel
theorem dX1_addOrders_49 : decode cX1_addOrders 49 = .ok (.ifCond .ne 5, 3) := by decide +kernel
theorem dX1_addOrders_52 : decode cX1_addOrders 52 = .ok (.iconst 0, 1) := by decide +kernel
theorem dX1_addOrders_53 : decode cX1_addOrders 53 = .ok (.ireturn, 1) := by decide +kernel
theorem dX1_addOrders_54 : decode cX1_addOrders 54 = .ok (.aload_n 0, 1) := by decide +kernel
theorem dX1_addOrders_55 : decode cX1_addOrders 55 = .ok (.invokevirtual 65, 3) := by decide +kernel
theorem dX1_addOrders_58 : decode cX1_addOrders 58 = .ok (.ifCond .ne 5, 3) := by decide +kernel
theorem dX1_addOrders_61 : decode cX1_addOrders 61 = .ok (.iconst 1, 1) := by decide +kernel
theorem dX1_addOrders_62 : decode cX1_addOrders 62 = .ok (.ireturn, 1) := by decide +kernel
theorem dX1_addOrders_63 : decode cX1_addOrders 63 = .ok (.iinc 3 1, 3) := by decide +kernel
theorem dX1_addOrders_66 : decode cX1_addOrders 66 = .ok (.goto (-37), 3) := by decide +kernel
theorem dX1_addOrders_69 : decode cX1_addOrders 69 = .ok (.iconst 1, 1) := by decide +kernel
theorem dX1_addOrders_70 : decode cX1_addOrders 70 = .ok (.ireturn, 1) := by decide +kernel
theorem dX1_inRow_0 : decode cX1_inRow 0 = .ok (.aload_n 1, 1) := by decide +kernel
theorem dX1_inRow_1 : decode cX1_inRow 1 = .ok (.iload_n 2, 1) := by decide +kernel
theorem dX1_inRow_2 : decode cX1_inRow 2 = .ok (.aload_n 0, 1) := by decide +kernel
theorem dX1_inRow_3 : decode cX1_inRow 3 = .ok (.getfield 16, 3) := by decide +kernel
theorem dX1_inRow_6 : decode cX1_inRow 6 = .ok (.iconst 1, 1) := by decide +kernel
theorem dX1_inRow_7 : decode cX1_inRow 7 = .ok (.iadd, 1) := by decide +kernel
theorem dX1_inRow_8 : decode cX1_inRow 8 = .ok (.imul, 1) := by decide +kernel
theorem dX1_inRow_9 : decode cX1_inRow 9 = .ok (.aload_n 0, 1) := by decide +kernel
theorem dX1_inRow_10 : decode cX1_inRow 10 = .ok (.getfield 24, 3) := by decide +kernel
theorem dX1_inRow_13 : decode cX1_inRow 13 = .ok (.iload_n 2, 1) := by decide +kernel
theorem dX1_inRow_14 : decode cX1_inRow 14 = .ok (.iaload, 1) := by decide +kernel
theorem dX1_inRow_15 : decode cX1_inRow 15 = .ok (.iadd, 1) := by decide +kernel
theorem dX1_inRow_16 : decode cX1_inRow 16 = .ok (.aaload, 1) := by decide +kernel
theorem dX1_inRow_17 : decode cX1_inRow 17 = .ok (.areturn, 1) := by decide +kernel
theorem dX1_meetsZero_0 : decode cX1_meetsZero 0 = .ok (.iconst 0, 1) := by decide +kernel
theorem dX1_meetsZero_1 : decode cX1_meetsZero 1 = .ok (.istore_n 2, 1) := by decide +kernel
theorem dX1_meetsZero_2 : decode cX1_meetsZero 2 = .ok (.iload_n 2, 1) := by decide +kernel
theorem dX1_meetsZero_3 : decode cX1_meetsZero 3 = .ok (.aload_n 0, 1) := by decide +kernel
theorem dX1_meetsZero_4 : decode cX1_meetsZero 4 = .ok (.getfield 16, 3) := by decide +kernel
theorem dX1_meetsZero_7 : decode cX1_meetsZero 7 = .ok (.if_icmp .ge 23, 3) := by decide +kernel
theorem dX1_meetsZero_10 : decode cX1_meetsZero 10 = .ok (.aload_n 0, 1) := by decide +kernel
theorem dX1_meetsZero_11 : decode cX1_meetsZero 11 = .ok (.aload_n 1, 1) := by decide +kernel
theorem dX1_meetsZero_12 : decode cX1_meetsZero 12 = .ok (.iload_n 2, 1) := by decide +kernel
theorem dX1_meetsZero_13 : decode cX1_meetsZero 13 = .ok (.invokevirtual 69, 3) := by decide +kernel
theorem dX1_meetsZero_16 : decode cX1_meetsZero 16 = .ok (.invokevirtual 73, 3) := by decide +kernel
theorem dX1_meetsZero_19 : decode cX1_meetsZero 19 = .ok (.ifCond .eq 5, 3) := by decide +kernel
theorem dX1_meetsZero_22 : decode cX1_meetsZero 22 = .ok (.iconst 1, 1) := by decide +kernel
theorem dX1_meetsZero_23 : decode cX1_meetsZero 23 = .ok (.ireturn, 1) := by decide +kernel
theorem dX1_meetsZero_24 : decode cX1_meetsZero 24 = .ok (.iinc 2 1, 3) := by decide +kernel
theorem dX1_meetsZero_27 : decode cX1_meetsZero 27 = .ok (.goto (-25), 3) := by decide +kernel
theorem dX1_meetsZero_30 : decode cX1_meetsZero 30 = .ok (.iconst 0, 1) := by decide +kernel
theorem dX1_meetsZero_31 : decode cX1_meetsZero 31 = .ok (.ireturn, 1) := by decide +kernel
theorem dX1_addOrder_0 : decode cX1_addOrder 0 = .ok (.aload_n 0, 1) := by decide +kernel
theorem dX1_addOrder_1 : decode cX1_addOrder 1 = .ok (.getfield 10, 3) := by decide +kernel
theorem dX1_addOrder_4 : decode cX1_addOrder 4 = .ok (.aload_n 0, 1) := by decide +kernel
theorem dX1_addOrder_5 : decode cX1_addOrder 5 = .ok (.aload_n 1, 1) := by decide +kernel
theorem dX1_addOrder_6 : decode cX1_addOrder 6 = .ok (.iconst 0, 1) := by decide +kernel
theorem dX1_addOrder_7 : decode cX1_addOrder 7 = .ok (.invokevirtual 69, 3) := by decide +kernel
theorem dX1_addOrder_10 : decode cX1_addOrder 10 = .ok (.invokevirtual 40, 3) := by decide +kernel
theorem dX1_addOrder_13 : decode cX1_addOrder 13 = .ok (.iconst 1, 1) := by decide +kernel
theorem dX1_addOrder_14 : decode cX1_addOrder 14 = .ok (.istore_n 3, 1) := by decide +kernel
theorem dX1_addOrder_15 : decode cX1_addOrder 15 = .ok (.iload_n 3, 1) := by decide +kernel
theorem dX1_addOrder_16 : decode cX1_addOrder 16 = .ok (.aload_n 0, 1) := by decide +kernel
theorem dX1_addOrder_17 : decode cX1_addOrder 17 = .ok (.getfield 16, 3) := by decide +kernel
theorem dX1_addOrder_20 : decode cX1_addOrder 20 = .ok (.if_icmp .ge 36, 3) := by decide +kernel
theorem dX1_addOrder_23 : decode cX1_addOrder 23 = .ok (.aload_n 0, 1) := by decide +kernel
theorem dX1_addOrder_24 : decode cX1_addOrder 24 = .ok (.getfield 20, 3) := by decide +kernel
theorem dX1_addOrder_27 : decode cX1_addOrder 27 = .ok (.aload_n 0, 1) := by decide +kernel
theorem dX1_addOrder_28 : decode cX1_addOrder 28 = .ok (.getfield 10, 3) := by decide +kernel
theorem dX1_addOrder_31 : decode cX1_addOrder 31 = .ok (.aload_n 0, 1) := by decide +kernel
theorem dX1_addOrder_32 : decode cX1_addOrder 32 = .ok (.aload_n 1, 1) := by decide +kernel
theorem dX1_addOrder_33 : decode cX1_addOrder 33 = .ok (.iload_n 3, 1) := by decide +kernel
theorem dX1_addOrder_34 : decode cX1_addOrder 34 = .ok (.invokevirtual 69, 3) := by decide +kernel
theorem dX1_addOrder_37 : decode cX1_addOrder 37 = .ok (.iconst 0, 1) := by decide +kernel
theorem dX1_addOrder_38 : decode cX1_addOrder 38 = .ok (.aload_n 0, 1) := by decide +kernel
theorem dX1_addOrder_39 : decode cX1_addOrder 39 = .ok (.getfield 10, 3) := by decide +kernel
theorem dX1_addOrder_42 : decode cX1_addOrder 42 = .ok (.invokevirtual 44, 3) := by decide +kernel
theorem dX1_addOrder_45 : decode cX1_addOrder 45 = .ok (.ifCond .ne 5, 3) := by decide +kernel
theorem dX1_addOrder_48 : decode cX1_addOrder 48 = .ok (.iconst 0, 1) := by decide +kernel
theorem dX1_addOrder_49 : decode cX1_addOrder 49 = .ok (.ireturn, 1) := by decide +kernel
theorem dX1_addOrder_50 : decode cX1_addOrder 50 = .ok (.iinc 3 1, 3) := by decide +kernel
theorem dX1_addOrder_53 : decode cX1_addOrder 53 = .ok (.goto (-38), 3) := by decide +kernel
theorem dX1_addOrder_56 : decode cX1_addOrder 56 = .ok (.aload_n 0, 1) := by decide +kernel
theorem dX1_addOrder_57 : decode cX1_addOrder 57 = .ok (.getfield 20, 3) := by decide +kernel
theorem dX1_addOrder_60 : decode cX1_addOrder 60 = .ok (.aload_n 2, 1) := by decide +kernel
theorem dX1_addOrder_61 : decode cX1_addOrder 61 = .ok (.aload_n 0, 1) := by decide +kernel
theorem dX1_addOrder_62 : decode cX1_addOrder 62 = .ok (.getfield 10, 3) := by decide +kernel
theorem dX1_addOrder_65 : decode cX1_addOrder 65 = .ok (.aload_n 0, 1) := by decide +kernel
theorem dX1_addOrder_66 : decode cX1_addOrder 66 = .ok (.invokevirtual 76, 3) := by decide +kernel
theorem dX1_addOrder_69 : decode cX1_addOrder 69 = .ok (.aload_n 2, 1) := by decide +kernel
theorem dX1_addOrder_70 : decode cX1_addOrder 70 = .ok (.invokevirtual 79, 3) := by decide +kernel
theorem dX1_addOrder_73 : decode cX1_addOrder 73 = .ok (.ireturn, 1) := by decide +kernel
theorem dX1_fallsOddly_0 : decode cX1_fallsOddly 0 = .ok (.iconst 0, 1) := by decide +kernel
theorem dX1_fallsOddly_1 : decode cX1_fallsOddly 1 = .ok (.istore_n 1, 1) := by decide +kernel
theorem dX1_fallsOddly_2 : decode cX1_fallsOddly 2 = .ok (.iconst 0, 1) := by decide +kernel
theorem dX1_fallsOddly_3 : decode cX1_fallsOddly 3 = .ok (.istore_n 2, 1) := by decide +kernel
theorem dX1_fallsOddly_4 : decode cX1_fallsOddly 4 = .ok (.iload_n 2, 1) := by decide +kernel
theorem dX1_fallsOddly_5 : decode cX1_fallsOddly 5 = .ok (.aload_n 0, 1) := by decide +kernel
theorem dX1_fallsOddly_6 : decode cX1_fallsOddly 6 = .ok (.getfield 16, 3) := by decide +kernel
theorem dX1_fallsOddly_9 : decode cX1_fallsOddly 9 = .ok (.if_icmp .ge 52, 3) := by decide +kernel
theorem dX1_fallsOddly_12 : decode cX1_fallsOddly 12 = .ok (.iload_n 2, 1) := by decide +kernel
theorem dX1_fallsOddly_13 : decode cX1_fallsOddly 13 = .ok (.iconst 1, 1) := by decide +kernel
theorem dX1_fallsOddly_14 : decode cX1_fallsOddly 14 = .ok (.iadd, 1) := by decide +kernel
theorem dX1_fallsOddly_15 : decode cX1_fallsOddly 15 = .ok (.istore_n 3, 1) := by decide +kernel
theorem dX1_fallsOddly_16 : decode cX1_fallsOddly 16 = .ok (.iload_n 3, 1) := by decide +kernel
theorem dX1_fallsOddly_17 : decode cX1_fallsOddly 17 = .ok (.aload_n 0, 1) := by decide +kernel
theorem dX1_fallsOddly_18 : decode cX1_fallsOddly 18 = .ok (.getfield 16, 3) := by decide +kernel
theorem dX1_fallsOddly_21 : decode cX1_fallsOddly 21 = .ok (.if_icmp .ge 34, 3) := by decide +kernel
theorem dX1_fallsOddly_24 : decode cX1_fallsOddly 24 = .ok (.aload_n 0, 1) := by decide +kernel
theorem dX1_fallsOddly_25 : decode cX1_fallsOddly 25 = .ok (.getfield 24, 3) := by decide +kernel
theorem dX1_fallsOddly_28 : decode cX1_fallsOddly 28 = .ok (.iload_n 2, 1) := by decide +kernel
theorem dX1_fallsOddly_29 : decode cX1_fallsOddly 29 = .ok (.iaload, 1) := by decide +kernel
theorem dX1_fallsOddly_30 : decode cX1_fallsOddly 30 = .ok (.aload_n 0, 1) := by decide +kernel
theorem dX1_fallsOddly_31 : decode cX1_fallsOddly 31 = .ok (.getfield 24, 3) := by decide +kernel
theorem dX1_fallsOddly_34 : decode cX1_fallsOddly 34 = .ok (.iload_n 3, 1) := by decide +kernel
theorem dX1_fallsOddly_35 : decode cX1_fallsOddly 35 = .ok (.iaload, 1) := by decide +kernel
theorem dX1_fallsOddly_36 : decode cX1_fallsOddly 36 = .ok (.if_icmp .le 13, 3) := by decide +kernel
theorem dX1_fallsOddly_39 : decode cX1_fallsOddly 39 = .ok (.iload_n 1, 1) := by decide +kernel
theorem dX1_fallsOddly_40 : decode cX1_fallsOddly 40 = .ok (.ifCond .ne 7, 3) := by decide +kernel
theorem dX1_fallsOddly_43 : decode cX1_fallsOddly 43 = .ok (.iconst 1, 1) := by decide +kernel
theorem dX1_fallsOddly_44 : decode cX1_fallsOddly 44 = .ok (.goto 4, 3) := by decide +kernel
theorem dX1_fallsOddly_47 : decode cX1_fallsOddly 47 = .ok (.iconst 0, 1) := by decide +kernel
theorem dX1_fallsOddly_48 : decode cX1_fallsOddly 48 = .ok (.istore_n 1, 1) := by decide +kernel
theorem dX1_fallsOddly_49 : decode cX1_fallsOddly 49 = .ok (.iinc 3 1, 3) := by decide +kernel
theorem dX1_fallsOddly_52 : decode cX1_fallsOddly 52 = .ok (.goto (-36), 3) := by decide +kernel
theorem dX1_fallsOddly_55 : decode cX1_fallsOddly 55 = .ok (.iinc 2 1, 3) := by decide +kernel
theorem dX1_fallsOddly_58 : decode cX1_fallsOddly 58 = .ok (.goto (-54), 3) := by decide +kernel
theorem dX1_fallsOddly_61 : decode cX1_fallsOddly 61 = .ok (.iload_n 1, 1) := by decide +kernel
theorem dX1_fallsOddly_62 : decode cX1_fallsOddly 62 = .ok (.ireturn, 1) := by decide +kernel
theorem dX1_goOn_0 : decode cX1_goOn 0 = .ok (.aload_n 0, 1) := by decide +kernel
theorem dX1_goOn_1 : decode cX1_goOn 1 = .ok (.getfield 16, 3) := by decide +kernel
theorem dX1_goOn_4 : decode cX1_goOn 4 = .ok (.iconst 2, 1) := by decide +kernel
theorem dX1_goOn_5 : decode cX1_goOn 5 = .ok (.isub, 1) := by decide +kernel
theorem dX1_goOn_6 : decode cX1_goOn 6 = .ok (.istore_n 1, 1) := by decide +kernel
theorem dX1_goOn_7 : decode cX1_goOn 7 = .ok (.iload_n 1, 1) := by decide +kernel
theorem dX1_goOn_8 : decode cX1_goOn 8 = .ok (.ifCond .lt 26, 3) := by decide +kernel
theorem dX1_goOn_11 : decode cX1_goOn 11 = .ok (.aload_n 0, 1) := by decide +kernel
theorem dX1_goOn_12 : decode cX1_goOn 12 = .ok (.getfield 24, 3) := by decide +kernel
theorem dX1_goOn_15 : decode cX1_goOn 15 = .ok (.iload_n 1, 1) := by decide +kernel
theorem dX1_goOn_16 : decode cX1_goOn 16 = .ok (.iaload, 1) := by decide +kernel
theorem dX1_goOn_17 : decode cX1_goOn 17 = .ok (.aload_n 0, 1) := by decide +kernel
theorem dX1_goOn_18 : decode cX1_goOn 18 = .ok (.getfield 24, 3) := by decide +kernel
theorem dX1_goOn_21 : decode cX1_goOn 21 = .ok (.iload_n 1, 1) := by decide +kernel
theorem dX1_goOn_22 : decode cX1_goOn 22 = .ok (.iconst 1, 1) := by decide +kernel
theorem dX1_goOn_23 : decode cX1_goOn 23 = .ok (.iadd, 1) := by decide +kernel
theorem dX1_goOn_24 : decode cX1_goOn 24 = .ok (.iaload, 1) := by decide +kernel
theorem dX1_goOn_25 : decode cX1_goOn 25 = .ok (.if_icmp .le 9, 3) := by decide +kernel
theorem dX1_goOn_28 : decode cX1_goOn 28 = .ok (.iinc 1 (-1), 3) := by decide +kernel
theorem dX1_goOn_31 : decode cX1_goOn 31 = .ok (.goto (-24), 3) := by decide +kernel
theorem dX1_goOn_34 : decode cX1_goOn 34 = .ok (.iload_n 1, 1) := by decide +kernel
theorem dX1_goOn_35 : decode cX1_goOn 35 = .ok (.ifCond .ge 5, 3) := by decide +kernel
theorem dX1_goOn_38 : decode cX1_goOn 38 = .ok (.iconst 0, 1) := by decide +kernel
theorem dX1_goOn_39 : decode cX1_goOn 39 = .ok (.ireturn, 1) := by decide +kernel
theorem dX1_goOn_40 : decode cX1_goOn 40 = .ok (.aload_n 0, 1) := by decide +kernel
theorem dX1_goOn_41 : decode cX1_goOn 41 = .ok (.getfield 16, 3) := by decide +kernel
theorem dX1_goOn_44 : decode cX1_goOn 44 = .ok (.iconst 1, 1) := by decide +kernel
theorem dX1_goOn_45 : decode cX1_goOn 45 = .ok (.isub, 1) := by decide +kernel
theorem dX1_goOn_46 : decode cX1_goOn 46 = .ok (.istore_n 2, 1) := by decide +kernel
theorem dX1_goOn_47 : decode cX1_goOn 47 = .ok (.iload_n 2, 1) := by decide +kernel
theorem dX1_goOn_48 : decode cX1_goOn 48 = .ok (.iload_n 1, 1) := by decide +kernel
theorem dX1_goOn_49 : decode cX1_goOn 49 = .ok (.iconst 1, 1) := by decide +kernel
theorem dX1_goOn_50 : decode cX1_goOn 50 = .ok (.iadd, 1) := by decide +kernel
theorem dX1_goOn_51 : decode cX1_goOn 51 = .ok (.if_icmp .le 24, 3) := by decide +kernel
theorem dX1_goOn_54 : decode cX1_goOn 54 = .ok (.aload_n 0, 1) := by decide +kernel
theorem dX1_goOn_55 : decode cX1_goOn 55 = .ok (.getfield 24, 3) := by decide +kernel
theorem dX1_goOn_58 : decode cX1_goOn 58 = .ok (.iload_n 2, 1) := by decide +kernel
theorem dX1_goOn_59 : decode cX1_goOn 59 = .ok (.iaload, 1) := by decide +kernel
theorem dX1_goOn_60 : decode cX1_goOn 60 = .ok (.aload_n 0, 1) := by decide +kernel
theorem dX1_goOn_61 : decode cX1_goOn 61 = .ok (.getfield 24, 3) := by decide +kernel
theorem dX1_goOn_64 : decode cX1_goOn 64 = .ok (.iload_n 1, 1) := by decide +kernel
theorem dX1_goOn_65 : decode cX1_goOn 65 = .ok (.iaload, 1) := by decide +kernel
theorem dX1_goOn_66 : decode cX1_goOn 66 = .ok (.if_icmp .ge 9, 3) := by decide +kernel
theorem dX1_goOn_69 : decode cX1_goOn 69 = .ok (.iinc 2 (-1), 3) := by decide +kernel
theorem dX1_goOn_72 : decode cX1_goOn 72 = .ok (.goto (-25), 3) := by decide +kernel
theorem dX1_goOn_75 : decode cX1_goOn 75 = .ok (.aload_n 0, 1) := by decide +kernel
theorem dX1_goOn_76 : decode cX1_goOn 76 = .ok (.iload_n 1, 1) := by decide +kernel
theorem dX1_goOn_77 : decode cX1_goOn 77 = .ok (.iload_n 2, 1) := by decide +kernel
theorem dX1_goOn_78 : decode cX1_goOn 78 = .ok (.invokevirtual 82, 3) := by decide +kernel
theorem dX1_goOn_81 : decode cX1_goOn 81 = .ok (.iload_n 1, 1) := by decide +kernel
theorem dX1_goOn_82 : decode cX1_goOn 82 = .ok (.iconst 1, 1) := by decide +kernel
theorem dX1_goOn_83 : decode cX1_goOn 83 = .ok (.iadd, 1) := by decide +kernel
theorem dX1_goOn_84 : decode cX1_goOn 84 = .ok (.istore_n 3, 1) := by decide +kernel
theorem dX1_goOn_85 : decode cX1_goOn 85 = .ok (.aload_n 0, 1) := by decide +kernel
theorem dX1_goOn_86 : decode cX1_goOn 86 = .ok (.getfield 16, 3) := by decide +kernel
theorem dX1_goOn_89 : decode cX1_goOn 89 = .ok (.iconst 1, 1) := by decide +kernel
theorem dX1_goOn_90 : decode cX1_goOn 90 = .ok (.isub, 1) := by decide +kernel
theorem dX1_goOn_91 : decode cX1_goOn 91 = .ok (.istore 4, 2) := by decide +kernel
theorem dX1_goOn_93 : decode cX1_goOn 93 = .ok (.iload_n 3, 1) := by decide +kernel
theorem dX1_goOn_94 : decode cX1_goOn 94 = .ok (.iload 4, 2) := by decide +kernel
theorem dX1_goOn_96 : decode cX1_goOn 96 = .ok (.if_icmp .ge 19, 3) := by decide +kernel
theorem dX1_goOn_99 : decode cX1_goOn 99 = .ok (.aload_n 0, 1) := by decide +kernel
theorem dX1_goOn_100 : decode cX1_goOn 100 = .ok (.iload_n 3, 1) := by decide +kernel
theorem dX1_goOn_101 : decode cX1_goOn 101 = .ok (.iload 4, 2) := by decide +kernel
theorem dX1_goOn_103 : decode cX1_goOn 103 = .ok (.invokevirtual 82, 3) := by decide +kernel
theorem dX1_goOn_106 : decode cX1_goOn 106 = .ok (.iinc 3 1, 3) := by decide +kernel
theorem dX1_goOn_109 : decode cX1_goOn 109 = .ok (.iinc 4 (-1), 3) := by decide +kernel
theorem dX1_goOn_112 : decode cX1_goOn 112 = .ok (.goto (-19), 3) := by decide +kernel
theorem dX1_goOn_115 : decode cX1_goOn 115 = .ok (.iconst 1, 1) := by decide +kernel
theorem dX1_goOn_116 : decode cX1_goOn 116 = .ok (.ireturn, 1) := by decide +kernel
theorem dX1_swap_0 : decode cX1_swap 0 = .ok (.aload_n 0, 1) := by decide +kernel
theorem dX1_swap_1 : decode cX1_swap 1 = .ok (.getfield 24, 3) := by decide +kernel
theorem dX1_swap_4 : decode cX1_swap 4 = .ok (.iload_n 1, 1) := by decide +kernel
theorem dX1_swap_5 : decode cX1_swap 5 = .ok (.iaload, 1) := by decide +kernel
theorem dX1_swap_6 : decode cX1_swap 6 = .ok (.istore_n 3, 1) := by decide +kernel
theorem dX1_swap_7 : decode cX1_swap 7 = .ok (.aload_n 0, 1) := by decide +kernel
theorem dX1_swap_8 : decode cX1_swap 8 = .ok (.getfield 24, 3) := by decide +kernel
theorem dX1_swap_11 : decode cX1_swap 11 = .ok (.iload_n 1, 1) := by decide +kernel
theorem dX1_swap_12 : decode cX1_swap 12 = .ok (.aload_n 0, 1) := by decide +kernel
theorem dX1_swap_13 : decode cX1_swap 13 = .ok (.getfield 24, 3) := by decide +kernel
theorem dX1_swap_16 : decode cX1_swap 16 = .ok (.iload_n 2, 1) := by decide +kernel
theorem dX1_swap_17 : decode cX1_swap 17 = .ok (.iaload, 1) := by decide +kernel
theorem dX1_swap_18 : decode cX1_swap 18 = .ok (.iastore, 1) := by decide +kernel
theorem dX1_swap_19 : decode cX1_swap 19 = .ok (.aload_n 0, 1) := by decide +kernel
theorem dX1_swap_20 : decode cX1_swap 20 = .ok (.getfield 24, 3) := by decide +kernel
theorem dX1_swap_23 : decode cX1_swap 23 = .ok (.iload_n 2, 1) := by decide +kernel
theorem dX1_swap_24 : decode cX1_swap 24 = .ok (.iload_n 3, 1) := by decide +kernel
theorem dX1_swap_25 : decode cX1_swap 25 = .ok (.iastore, 1) := by decide +kernel
theorem dX1_swap_26 : decode cX1_swap 26 = .ok (.return_, 1) := by decide +kernel
theorem dX2_init_0 : decode cX2_init 0 = .ok (.aload_n 0, 1) := by decide +kernel
theorem dX2_init_1 : decode cX2_init 1 = .ok (.invokespecial 1, 3) := by decide +kernel
theorem dX2_init_4 : decode cX2_init 4 = .ok (.aload_n 0, 1) := by decide +kernel
theorem dX2_init_5 : decode cX2_init 5 = .ok (.new 7, 3) := by decide +kernel
theorem dX2_init_8 : decode cX2_init 8 = .ok (.dup, 1) := by decide +kernel
theorem dX2_init_9 : decode cX2_init 9 = .ok (.invokespecial 9, 3) := by decide +kernel
theorem dX2_init_12 : decode cX2_init 12 = .ok (.putfield 10, 3) := by decide +kernel
theorem dX2_init_15 : decode cX2_init 15 = .ok (.aload_n 0, 1) := by decide +kernel
theorem dX2_init_16 : decode cX2_init 16 = .ok (.new 7, 3) := by decide +kernel
theorem dX2_init_19 : decode cX2_init 19 = .ok (.dup, 1) := by decide +kernel
theorem dX2_init_20 : decode cX2_init 20 = .ok (.invokespecial 9, 3) := by decide +kernel
theorem dX2_init_23 : decode cX2_init 23 = .ok (.putfield 16, 3) := by decide +kernel
theorem dX2_init_26 : decode cX2_init 26 = .ok (.aload_n 0, 1) := by decide +kernel
theorem dX2_init_27 : decode cX2_init 27 = .ok (.iload_n 1, 1) := by decide +kernel
theorem dX2_init_28 : decode cX2_init 28 = .ok (.putfield 19, 3) := by decide +kernel
theorem dX2_init_31 : decode cX2_init 31 = .ok (.aload_n 0, 1) := by decide +kernel
theorem dX2_init_32 : decode cX2_init 32 = .ok (.aload_n 2, 1) := by decide +kernel
theorem dX2_init_33 : decode cX2_init 33 = .ok (.putfield 23, 3) := by decide +kernel
theorem dX2_init_36 : decode cX2_init 36 = .ok (.aload_n 0, 1) := by decide +kernel
theorem dX2_init_37 : decode cX2_init 37 = .ok (.iload_n 1, 1) := by decide +kernel
theorem dX2_init_38 : decode cX2_init 38 = .ok (.iload_n 1, 1) := by decide +kernel
theorem dX2_init_39 : decode cX2_init 39 = .ok (.iconst 1, 1) := by decide +kernel
theorem dX2_init_40 : decode cX2_init 40 = .ok (.iadd, 1) := by decide +kernel
theorem dX2_init_41 : decode cX2_init 41 = .ok (.imul, 1) := by decide +kernel
theorem dX2_init_42 : decode cX2_init 42 = .ok (.invokestatic 27, 3) := by decide +kernel
theorem dX2_init_45 : decode cX2_init 45 = .ok (.putfield 31, 3) := by decide +kernel
theorem dX2_init_48 : decode cX2_init 48 = .ok (.aload_n 0, 1) := by decide +kernel
theorem dX2_init_49 : decode cX2_init 49 = .ok (.iload_n 1, 1) := by decide +kernel
theorem dX2_init_50 : decode cX2_init 50 = .ok (.newarray .int, 2) := by decide +kernel
theorem dX2_init_52 : decode cX2_init 52 = .ok (.putfield 35, 3) := by decide +kernel
theorem dX2_init_55 : decode cX2_init 55 = .ok (.aload_n 0, 1) := by decide +kernel
theorem dX2_init_56 : decode cX2_init 56 = .ok (.iload_n 1, 1) := by decide +kernel
theorem dX2_init_57 : decode cX2_init 57 = .ok (.newarray .int, 2) := by decide +kernel
theorem dX2_init_59 : decode cX2_init 59 = .ok (.putfield 39, 3) := by decide +kernel
theorem dX2_init_62 : decode cX2_init 62 = .ok (.return_, 1) := by decide +kernel
theorem dX2_run_0 : decode cX2_run 0 = .ok (.aload_n 0, 1) := by decide +kernel
theorem dX2_run_1 : decode cX2_run 1 = .ok (.aload_n 1, 1) := by decide +kernel
theorem dX2_run_2 : decode cX2_run 2 = .ok (.invokevirtual 42, 3) := by decide +kernel
theorem dX2_run_5 : decode cX2_run 5 = .ok (.iconst 0, 1) := by decide +kernel
theorem dX2_run_6 : decode cX2_run 6 = .ok (.istore 4, 2) := by decide +kernel
theorem dX2_run_8 : decode cX2_run 8 = .ok (.iload 4, 2) := by decide +kernel
theorem dX2_run_10 : decode cX2_run 10 = .ok (.aload_n 0, 1) := by decide +kernel
theorem dX2_run_11 : decode cX2_run 11 = .ok (.getfield 19, 3) := by decide +kernel
theorem dX2_run_14 : decode cX2_run 14 = .ok (.if_icmp .ge 83, 3) := by decide +kernel
theorem dX2_run_17 : decode cX2_run 17 = .ok (.aload_n 0, 1) := by decide +kernel
theorem dX2_run_18 : decode cX2_run 18 = .ok (.iload 4, 2) := by decide +kernel
theorem dX2_run_20 : decode cX2_run 20 = .ok (.iload_n 2, 1) := by decide +kernel
theorem dX2_run_21 : decode cX2_run 21 = .ok (.invokevirtual 46, 3) := by decide +kernel
theorem dX2_run_24 : decode cX2_run 24 = .ok (.istore 5, 2) := by decide +kernel
theorem dX2_run_26 : decode cX2_run 26 = .ok (.iload 5, 2) := by decide +kernel
theorem dX2_run_28 : decode cX2_run 28 = .ok (.ifCond .ge 6, 3) := by decide +kernel
theorem dX2_run_31 : decode cX2_run 31 = .ok (.goto 60, 3) := by decide +kernel
theorem dX2_run_34 : decode cX2_run 34 = .ok (.aload_n 0, 1) := by decide +kernel
theorem dX2_run_35 : decode cX2_run 35 = .ok (.iload 5, 2) := by decide +kernel
theorem dX2_run_37 : decode cX2_run 37 = .ok (.iload 4, 2) := by decide +kernel
theorem dX2_run_39 : decode cX2_run 39 = .ok (.invokevirtual 50, 3) := by decide +kernel
theorem dX2_run_42 : decode cX2_run 42 = .ok (.aload_n 0, 1) := by decide +kernel
theorem dX2_run_43 : decode cX2_run 43 = .ok (.getfield 54, 3) := by decide +kernel
theorem dX2_run_46 : decode cX2_run 46 = .ok (.istore 6, 2) := by decide +kernel
theorem dX2_run_48 : decode cX2_run 48 = .ok (.iload 6, 2) := by decide +kernel
theorem dX2_run_50 : decode cX2_run 50 = .ok (.aload_n 0, 1) := by decide +kernel
theorem dX2_run_51 : decode cX2_run 51 = .ok (.getfield 19, 3) := by decide +kernel
theorem dX2_run_54 : decode cX2_run 54 = .ok (.if_icmp .ge 37, 3) := by decide +kernel
theorem dX2_run_57 : decode cX2_run 57 = .ok (.aload_n 0, 1) := by decide +kernel
theorem dX2_run_58 : decode cX2_run 58 = .ok (.iload 6, 2) := by decide +kernel
theorem dX2_run_60 : decode cX2_run 60 = .ok (.iload 4, 2) := by decide +kernel
theorem dX2_run_62 : decode cX2_run 62 = .ok (.invokevirtual 57, 3) := by decide +kernel
theorem dX2_run_65 : decode cX2_run 65 = .ok (.invokevirtual 61, 3) := by decide +kernel
theorem dX2_run_68 : decode cX2_run 68 = .ok (.ifCond .ne 17, 3) := by decide +kernel
theorem dX2_run_71 : decode cX2_run 71 = .ok (.aload_n 0, 1) := by decide +kernel
theorem dX2_run_72 : decode cX2_run 72 = .ok (.iload 6, 2) := by decide +kernel
theorem dX2_run_74 : decode cX2_run 74 = .ok (.iload 4, 2) := by decide +kernel
theorem dX2_run_76 : decode cX2_run 76 = .ok (.iload_n 3, 1) := by decide +kernel
theorem dX2_run_77 : decode cX2_run 77 = .ok (.invokevirtual 65, 3) := by decide +kernel
theorem dX2_run_80 : decode cX2_run 80 = .ok (.ifCond .ne 5, 3) := by decide +kernel
theorem dX2_run_83 : decode cX2_run 83 = .ok (.iconst 0, 1) := by decide +kernel
theorem dX2_run_84 : decode cX2_run 84 = .ok (.ireturn, 1) := by decide +kernel
theorem dX2_run_85 : decode cX2_run 85 = .ok (.iinc 6 1, 3) := by decide +kernel
theorem dX2_run_88 : decode cX2_run 88 = .ok (.goto (-40), 3) := by decide +kernel
theorem dX2_run_91 : decode cX2_run 91 = .ok (.iinc 4 1, 3) := by decide +kernel
theorem dX2_run_94 : decode cX2_run 94 = .ok (.goto (-86), 3) := by decide +kernel
theorem dX2_run_97 : decode cX2_run 97 = .ok (.iconst 1, 1) := by decide +kernel
theorem dX2_run_98 : decode cX2_run 98 = .ok (.ireturn, 1) := by decide +kernel
theorem dX2_begin_0 : decode cX2_begin 0 = .ok (.iconst 0, 1) := by decide +kernel
theorem dX2_begin_1 : decode cX2_begin 1 = .ok (.istore_n 2, 1) := by decide +kernel
theorem dX2_begin_2 : decode cX2_begin 2 = .ok (.iload_n 2, 1) := by decide +kernel
theorem dX2_begin_3 : decode cX2_begin 3 = .ok (.aload_n 0, 1) := by decide +kernel
theorem dX2_begin_4 : decode cX2_begin 4 = .ok (.getfield 31, 3) := by decide +kernel
theorem dX2_begin_7 : decode cX2_begin 7 = .ok (.arraylength, 1) := by decide +kernel
theorem dX2_begin_8 : decode cX2_begin 8 = .ok (.if_icmp .ge 27, 3) := by decide +kernel
theorem dX2_begin_11 : decode cX2_begin 11 = .ok (.iload_n 2, 1) := by decide +kernel
theorem dX2_begin_12 : decode cX2_begin 12 = .ok (.aload_n 1, 1) := by decide +kernel
theorem dX2_begin_13 : decode cX2_begin 13 = .ok (.arraylength, 1) := by decide +kernel
theorem dX2_begin_14 : decode cX2_begin 14 = .ok (.if_icmp .ge 21, 3) := by decide +kernel
theorem dX2_begin_17 : decode cX2_begin 17 = .ok (.aload_n 0, 1) := by decide +kernel
theorem dX2_begin_18 : decode cX2_begin 18 = .ok (.getfield 31, 3) := by decide +kernel
theorem dX2_begin_21 : decode cX2_begin 21 = .ok (.iload_n 2, 1) := by decide +kernel
theorem dX2_begin_22 : decode cX2_begin 22 = .ok (.aaload, 1) := by decide +kernel
theorem dX2_begin_23 : decode cX2_begin 23 = .ok (.aload_n 1, 1) := by decide +kernel
theorem dX2_begin_24 : decode cX2_begin 24 = .ok (.iload_n 2, 1) := by decide +kernel
theorem dX2_begin_25 : decode cX2_begin 25 = .ok (.aaload, 1) := by decide +kernel
theorem dX2_begin_26 : decode cX2_begin 26 = .ok (.invokevirtual 69, 3) := by decide +kernel
theorem dX2_begin_29 : decode cX2_begin 29 = .ok (.iinc 2 1, 3) := by decide +kernel
theorem dX2_begin_32 : decode cX2_begin 32 = .ok (.goto (-30), 3) := by decide +kernel
theorem dX2_begin_35 : decode cX2_begin 35 = .ok (.iconst 0, 1) := by decide +kernel
theorem dX2_begin_36 : decode cX2_begin 36 = .ok (.istore_n 2, 1) := by decide +kernel
theorem dX2_begin_37 : decode cX2_begin 37 = .ok (.iload_n 2, 1) := by decide +kernel
theorem dX2_begin_38 : decode cX2_begin 38 = .ok (.aload_n 0, 1) := by decide +kernel
theorem dX2_begin_39 : decode cX2_begin 39 = .ok (.getfield 19, 3) := by decide +kernel
theorem dX2_begin_42 : decode cX2_begin 42 = .ok (.if_icmp .ge 16, 3) := by decide +kernel
theorem dX2_begin_45 : decode cX2_begin 45 = .ok (.aload_n 0, 1) := by decide +kernel
theorem dX2_begin_46 : decode cX2_begin 46 = .ok (.getfield 35, 3) := by decide +kernel
theorem dX2_begin_49 : decode cX2_begin 49 = .ok (.iload_n 2, 1) := by decide +kernel
theorem dX2_begin_50 : decode cX2_begin 50 = .ok (.iload_n 2, 1) := by decide +kernel
theorem dX2_begin_51 : decode cX2_begin 51 = .ok (.iastore, 1) := by decide +kernel
theorem dX2_begin_52 : decode cX2_begin 52 = .ok (.iinc 2 1, 3) := by decide +kernel
theorem dX2_begin_55 : decode cX2_begin 55 = .ok (.goto (-18), 3) := by decide +kernel
theorem dX2_begin_58 : decode cX2_begin 58 = .ok (.aload_n 0, 1) := by decide +kernel
theorem dX2_begin_59 : decode cX2_begin 59 = .ok (.iconst 0, 1) := by decide +kernel
theorem dX2_begin_60 : decode cX2_begin 60 = .ok (.putfield 54, 3) := by decide +kernel
theorem dX2_begin_63 : decode cX2_begin 63 = .ok (.aload_n 0, 1) := by decide +kernel
theorem dX2_begin_64 : decode cX2_begin 64 = .ok (.iconst 0, 1) := by decide +kernel
theorem dX2_begin_65 : decode cX2_begin 65 = .ok (.putfield 73, 3) := by decide +kernel
theorem dX2_begin_68 : decode cX2_begin 68 = .ok (.return_, 1) := by decide +kernel
theorem dX2_at_0 : decode cX2_at 0 = .ok (.aload_n 0, 1) := by decide +kernel
theorem dX2_at_1 : decode cX2_at 1 = .ok (.getfield 31, 3) := by decide +kernel
theorem dX2_at_4 : decode cX2_at 4 = .ok (.aload_n 0, 1) := by decide +kernel
theorem dX2_at_5 : decode cX2_at 5 = .ok (.getfield 35, 3) := by decide +kernel
theorem dX2_at_8 : decode cX2_at 8 = .ok (.iload_n 1, 1) := by decide +kernel
theorem dX2_at_9 : decode cX2_at 9 = .ok (.iaload, 1) := by decide +kernel
theorem dX2_at_10 : decode cX2_at 10 = .ok (.aload_n 0, 1) := by decide +kernel
theorem dX2_at_11 : decode cX2_at 11 = .ok (.getfield 19, 3) := by decide +kernel
theorem dX2_at_14 : decode cX2_at 14 = .ok (.iconst 1, 1) := by decide +kernel
theorem dX2_at_15 : decode cX2_at 15 = .ok (.iadd, 1) := by decide +kernel
theorem dX2_at_16 : decode cX2_at 16 = .ok (.imul, 1) := by decide +kernel
theorem dX2_at_17 : decode cX2_at 17 = .ok (.iload_n 2, 1) := by decide +kernel
theorem dX2_at_18 : decode cX2_at 18 = .ok (.iadd, 1) := by decide +kernel
theorem dX2_at_19 : decode cX2_at 19 = .ok (.aaload, 1) := by decide +kernel
theorem dX2_at_20 : decode cX2_at 20 = .ok (.areturn, 1) := by decide +kernel
theorem dX2_pivotAt_0 : decode cX2_pivotAt 0 = .ok (.aload_n 0, 1) := by decide +kernel
theorem dX2_pivotAt_1 : decode cX2_pivotAt 1 = .ok (.iload_n 1, 1) := by decide +kernel
theorem dX2_pivotAt_2 : decode cX2_pivotAt 2 = .ok (.aload_n 0, 1) := by decide +kernel
theorem dX2_pivotAt_3 : decode cX2_pivotAt 3 = .ok (.getfield 39, 3) := by decide +kernel
theorem dX2_pivotAt_6 : decode cX2_pivotAt 6 = .ok (.iload_n 1, 1) := by decide +kernel
theorem dX2_pivotAt_7 : decode cX2_pivotAt 7 = .ok (.iaload, 1) := by decide +kernel
theorem dX2_pivotAt_8 : decode cX2_pivotAt 8 = .ok (.invokevirtual 57, 3) := by decide +kernel
theorem dX2_pivotAt_11 : decode cX2_pivotAt 11 = .ok (.areturn, 1) := by decide +kernel
theorem dX2_choose_0 : decode cX2_choose 0 = .ok (.iconst (-1), 1) := by decide +kernel
theorem dX2_choose_1 : decode cX2_choose 1 = .ok (.istore_n 3, 1) := by decide +kernel
theorem dX2_choose_2 : decode cX2_choose 2 = .ok (.aload_n 0, 1) := by decide +kernel
theorem dX2_choose_3 : decode cX2_choose 3 = .ok (.getfield 54, 3) := by decide +kernel
theorem dX2_choose_6 : decode cX2_choose 6 = .ok (.istore 4, 2) := by decide +kernel
theorem dX2_choose_8 : decode cX2_choose 8 = .ok (.iload 4, 2) := by decide +kernel
theorem dX2_choose_10 : decode cX2_choose 10 = .ok (.aload_n 0, 1) := by decide +kernel
theorem dX2_choose_11 : decode cX2_choose 11 = .ok (.getfield 19, 3) := by decide +kernel
theorem dX2_choose_14 : decode cX2_choose 14 = .ok (.if_icmp .ge 58, 3) := by decide +kernel
theorem dX2_choose_17 : decode cX2_choose 17 = .ok (.aload_n 0, 1) := by decide +kernel
theorem dX2_choose_18 : decode cX2_choose 18 = .ok (.iload 4, 2) := by decide +kernel
theorem dX2_choose_20 : decode cX2_choose 20 = .ok (.iload_n 1, 1) := by decide +kernel
theorem dX2_choose_21 : decode cX2_choose 21 = .ok (.invokevirtual 57, 3) := by decide +kernel
theorem dX2_choose_24 : decode cX2_choose 24 = .ok (.invokevirtual 61, 3) := by decide +kernel
theorem dX2_choose_27 : decode cX2_choose 27 = .ok (.ifCond .ne 39, 3) := by decide +kernel
theorem dX2_choose_30 : decode cX2_choose 30 = .ok (.iload_n 2, 1) := by decide +kernel
theorem dX2_choose_31 : decode cX2_choose 31 = .ok (.ifCond .ne 6, 3) := by decide +kernel
theorem dX2_choose_34 : decode cX2_choose 34 = .ok (.iload 4, 2) := by decide +kernel
theorem dX2_choose_36 : decode cX2_choose 36 = .ok (.ireturn, 1) := by decide +kernel
theorem dX2_choose_37 : decode cX2_choose 37 = .ok (.iload_n 3, 1) := by decide +kernel
theorem dX2_choose_38 : decode cX2_choose 38 = .ok (.ifCond .lt 25, 3) := by decide +kernel
theorem dX2_choose_41 : decode cX2_choose 41 = .ok (.aload_n 0, 1) := by decide +kernel
theorem dX2_choose_42 : decode cX2_choose 42 = .ok (.iload 4, 2) := by decide +kernel
theorem dX2_choose_44 : decode cX2_choose 44 = .ok (.iload_n 1, 1) := by decide +kernel
theorem dX2_choose_45 : decode cX2_choose 45 = .ok (.invokevirtual 57, 3) := by decide +kernel
theorem dX2_choose_48 : decode cX2_choose 48 = .ok (.invokevirtual 77, 3) := by decide +kernel
theorem dX2_choose_51 : decode cX2_choose 51 = .ok (.aload_n 0, 1) := by decide +kernel
theorem dX2_choose_52 : decode cX2_choose 52 = .ok (.iload_n 3, 1) := by decide +kernel
theorem dX2_choose_53 : decode cX2_choose 53 = .ok (.iload_n 1, 1) := by decide +kernel
theorem dX2_choose_54 : decode cX2_choose 54 = .ok (.invokevirtual 57, 3) := by decide +kernel
theorem dX2_choose_57 : decode cX2_choose 57 = .ok (.invokevirtual 77, 3) := by decide +kernel
theorem dX2_choose_60 : decode cX2_choose 60 = .ok (.if_icmp .ge 6, 3) := by decide +kernel
theorem dX2_choose_63 : decode cX2_choose 63 = .ok (.iload 4, 2) := by decide +kernel
theorem dX2_choose_65 : decode cX2_choose 65 = .ok (.istore_n 3, 1) := by decide +kernel
theorem dX2_choose_66 : decode cX2_choose 66 = .ok (.iinc 4 1, 3) := by decide +kernel
theorem dX2_choose_69 : decode cX2_choose 69 = .ok (.goto (-61), 3) := by decide +kernel
theorem dX2_choose_72 : decode cX2_choose 72 = .ok (.iload_n 3, 1) := by decide +kernel
theorem dX2_choose_73 : decode cX2_choose 73 = .ok (.ireturn, 1) := by decide +kernel
theorem dX2_bring_0 : decode cX2_bring 0 = .ok (.iload_n 1, 1) := by decide +kernel
theorem dX2_bring_1 : decode cX2_bring 1 = .ok (.aload_n 0, 1) := by decide +kernel
theorem dX2_bring_2 : decode cX2_bring 2 = .ok (.getfield 54, 3) := by decide +kernel
theorem dX2_bring_5 : decode cX2_bring 5 = .ok (.if_icmp .eq 51, 3) := by decide +kernel
theorem dX2_bring_8 : decode cX2_bring 8 = .ok (.aload_n 0, 1) := by decide +kernel
theorem dX2_bring_9 : decode cX2_bring 9 = .ok (.getfield 35, 3) := by decide +kernel
theorem dX2_bring_12 : decode cX2_bring 12 = .ok (.iload_n 1, 1) := by decide +kernel
theorem dX2_bring_13 : decode cX2_bring 13 = .ok (.iaload, 1) := by decide +kernel
theorem dX2_bring_14 : decode cX2_bring 14 = .ok (.istore_n 3, 1) := by decide +kernel
theorem dX2_bring_15 : decode cX2_bring 15 = .ok (.aload_n 0, 1) := by decide +kernel
theorem dX2_bring_16 : decode cX2_bring 16 = .ok (.getfield 35, 3) := by decide +kernel
theorem dX2_bring_19 : decode cX2_bring 19 = .ok (.iload_n 1, 1) := by decide +kernel
theorem dX2_bring_20 : decode cX2_bring 20 = .ok (.aload_n 0, 1) := by decide +kernel
theorem dX2_bring_21 : decode cX2_bring 21 = .ok (.getfield 35, 3) := by decide +kernel
theorem dX2_bring_24 : decode cX2_bring 24 = .ok (.aload_n 0, 1) := by decide +kernel
theorem dX2_bring_25 : decode cX2_bring 25 = .ok (.getfield 54, 3) := by decide +kernel
theorem dX2_bring_28 : decode cX2_bring 28 = .ok (.iaload, 1) := by decide +kernel
theorem dX2_bring_29 : decode cX2_bring 29 = .ok (.iastore, 1) := by decide +kernel
theorem dX2_bring_30 : decode cX2_bring 30 = .ok (.aload_n 0, 1) := by decide +kernel
theorem dX2_bring_31 : decode cX2_bring 31 = .ok (.getfield 35, 3) := by decide +kernel
theorem dX2_bring_34 : decode cX2_bring 34 = .ok (.aload_n 0, 1) := by decide +kernel
theorem dX2_bring_35 : decode cX2_bring 35 = .ok (.getfield 54, 3) := by decide +kernel
theorem dX2_bring_38 : decode cX2_bring 38 = .ok (.iload_n 3, 1) := by decide +kernel
theorem dX2_bring_39 : decode cX2_bring 39 = .ok (.iastore, 1) := by decide +kernel
theorem dX2_bring_40 : decode cX2_bring 40 = .ok (.aload_n 0, 1) := by decide +kernel
theorem dX2_bring_41 : decode cX2_bring 41 = .ok (.aload_n 0, 1) := by decide +kernel
theorem dX2_bring_42 : decode cX2_bring 42 = .ok (.getfield 73, 3) := by decide +kernel
theorem dX2_bring_45 : decode cX2_bring 45 = .ok (.ifCond .ne 7, 3) := by decide +kernel
theorem dX2_bring_48 : decode cX2_bring 48 = .ok (.iconst 1, 1) := by decide +kernel
theorem dX2_bring_49 : decode cX2_bring 49 = .ok (.goto 4, 3) := by decide +kernel
theorem dX2_bring_52 : decode cX2_bring 52 = .ok (.iconst 0, 1) := by decide +kernel
theorem dX2_bring_53 : decode cX2_bring 53 = .ok (.putfield 73, 3) := by decide +kernel
theorem dX2_bring_56 : decode cX2_bring 56 = .ok (.aload_n 0, 1) := by decide +kernel
theorem dX2_bring_57 : decode cX2_bring 57 = .ok (.getfield 39, 3) := by decide +kernel
theorem dX2_bring_60 : decode cX2_bring 60 = .ok (.aload_n 0, 1) := by decide +kernel
theorem dX2_bring_61 : decode cX2_bring 61 = .ok (.getfield 54, 3) := by decide +kernel
theorem dX2_bring_64 : decode cX2_bring 64 = .ok (.iload_n 2, 1) := by decide +kernel
theorem dX2_bring_65 : decode cX2_bring 65 = .ok (.iastore, 1) := by decide +kernel
theorem dX2_bring_66 : decode cX2_bring 66 = .ok (.aload_n 0, 1) := by decide +kernel
theorem dX2_bring_67 : decode cX2_bring 67 = .ok (.dup, 1) := by decide +kernel
theorem dX2_bring_68 : decode cX2_bring 68 = .ok (.getfield 54, 3) := by decide +kernel
theorem dX2_bring_71 : decode cX2_bring 71 = .ok (.iconst 1, 1) := by decide +kernel
theorem dX2_bring_72 : decode cX2_bring 72 = .ok (.iadd, 1) := by decide +kernel
theorem dX2_bring_73 : decode cX2_bring 73 = .ok (.putfield 54, 3) := by decide +kernel
theorem dX2_bring_76 : decode cX2_bring 76 = .ok (.return_, 1) := by decide +kernel
theorem dX2_clearColumn_0 : decode cX2_clearColumn 0 = .ok (.aload_n 0, 1) := by decide +kernel
theorem dX2_clearColumn_1 : decode cX2_clearColumn 1 = .ok (.getfield 54, 3) := by decide +kernel
theorem dX2_clearColumn_4 : decode cX2_clearColumn 4 = .ok (.iconst 1, 1) := by decide +kernel
theorem dX2_clearColumn_5 : decode cX2_clearColumn 5 = .ok (.isub, 1) := by decide +kernel
theorem dX2_clearColumn_6 : decode cX2_clearColumn 6 = .ok (.istore 4, 2) := by decide +kernel
theorem dX2_clearColumn_8 : decode cX2_clearColumn 8 = .ok (.aload_n 0, 1) := by decide +kernel
theorem dX2_clearColumn_9 : decode cX2_clearColumn 9 = .ok (.getfield 23, 3) := by decide +kernel
theorem dX2_clearColumn_12 : decode cX2_clearColumn 12 = .ok (.aload_n 0, 1) := by decide +kernel
theorem dX2_clearColumn_13 : decode cX2_clearColumn 13 = .ok (.iload_n 1, 1) := by decide +kernel
theorem dX2_clearColumn_14 : decode cX2_clearColumn 14 = .ok (.iload_n 2, 1) := by decide +kernel
theorem dX2_clearColumn_15 : decode cX2_clearColumn 15 = .ok (.invokevirtual 57, 3) := by decide +kernel
theorem dX2_clearColumn_18 : decode cX2_clearColumn 18 = .ok (.aload_n 0, 1) := by decide +kernel
theorem dX2_clearColumn_19 : decode cX2_clearColumn 19 = .ok (.iload 4, 2) := by decide +kernel
theorem dX2_clearColumn_21 : decode cX2_clearColumn 21 = .ok (.iload_n 2, 1) := by decide +kernel
theorem dX2_clearColumn_22 : decode cX2_clearColumn 22 = .ok (.invokevirtual 57, 3) := by decide +kernel
theorem dX2_clearColumn_25 : decode cX2_clearColumn 25 = .ok (.iconst 1, 1) := by decide +kernel
theorem dX2_clearColumn_26 : decode cX2_clearColumn 26 = .ok (.aload_n 0, 1) := by decide +kernel
theorem dX2_clearColumn_27 : decode cX2_clearColumn 27 = .ok (.getfield 10, 3) := by decide +kernel
theorem dX2_clearColumn_30 : decode cX2_clearColumn 30 = .ok (.invokevirtual 81, 3) := by decide +kernel
theorem dX2_clearColumn_33 : decode cX2_clearColumn 33 = .ok (.ifCond .ne 5, 3) := by decide +kernel
theorem dX2_clearColumn_36 : decode cX2_clearColumn 36 = .ok (.iconst 0, 1) := by decide +kernel
theorem dX2_clearColumn_37 : decode cX2_clearColumn 37 = .ok (.ireturn, 1) := by decide +kernel
theorem dX2_clearColumn_38 : decode cX2_clearColumn 38 = .ok (.iload_n 2, 1) := by decide +kernel
theorem dX2_clearColumn_39 : decode cX2_clearColumn 39 = .ok (.iconst 1, 1) := by decide +kernel
theorem dX2_clearColumn_40 : decode cX2_clearColumn 40 = .ok (.iadd, 1) := by decide +kernel
theorem dX2_clearColumn_41 : decode cX2_clearColumn 41 = .ok (.istore 5, 2) := by decide +kernel
theorem dX2_clearColumn_43 : decode cX2_clearColumn 43 = .ok (.iload 5, 2) := by decide +kernel
theorem dX2_clearColumn_45 : decode cX2_clearColumn 45 = .ok (.iload_n 3, 1) := by decide +kernel
theorem dX2_clearColumn_46 : decode cX2_clearColumn 46 = .ok (.if_icmp .ge 66, 3) := by decide +kernel
theorem dX2_clearColumn_49 : decode cX2_clearColumn 49 = .ok (.aload_n 0, 1) := by decide +kernel
theorem dX2_clearColumn_50 : decode cX2_clearColumn 50 = .ok (.iload_n 1, 1) := by decide +kernel
theorem dX2_clearColumn_51 : decode cX2_clearColumn 51 = .ok (.iload 5, 2) := by decide +kernel
theorem dX2_clearColumn_53 : decode cX2_clearColumn 53 = .ok (.invokevirtual 57, 3) := by decide +kernel
theorem dX2_clearColumn_56 : decode cX2_clearColumn 56 = .ok (.astore 6, 2) := by decide +kernel
theorem dX2_clearColumn_58 : decode cX2_clearColumn 58 = .ok (.aload_n 0, 1) := by decide +kernel
theorem dX2_clearColumn_59 : decode cX2_clearColumn 59 = .ok (.getfield 23, 3) := by decide +kernel
theorem dX2_clearColumn_62 : decode cX2_clearColumn 62 = .ok (.aload_n 0, 1) := by decide +kernel
theorem dX2_clearColumn_63 : decode cX2_clearColumn 63 = .ok (.getfield 10, 3) := by decide +kernel
theorem dX2_clearColumn_66 : decode cX2_clearColumn 66 = .ok (.aload_n 0, 1) := by decide +kernel
theorem dX2_clearColumn_67 : decode cX2_clearColumn 67 = .ok (.iload 4, 2) := by decide +kernel
theorem dX2_clearColumn_69 : decode cX2_clearColumn 69 = .ok (.iload 5, 2) := by decide +kernel
theorem dX2_clearColumn_71 : decode cX2_clearColumn 71 = .ok (.invokevirtual 57, 3) := by decide +kernel
theorem dX2_clearColumn_74 : decode cX2_clearColumn 74 = .ok (.iconst 0, 1) := by decide +kernel
theorem dX2_clearColumn_75 : decode cX2_clearColumn 75 = .ok (.aload_n 0, 1) := by decide +kernel
theorem dX2_clearColumn_76 : decode cX2_clearColumn 76 = .ok (.getfield 16, 3) := by decide +kernel
theorem dX2_clearColumn_79 : decode cX2_clearColumn 79 = .ok (.invokevirtual 81, 3) := by decide +kernel
theorem dX2_clearColumn_82 : decode cX2_clearColumn 82 = .ok (.ifCond .eq 22, 3) := by decide +kernel
theorem dX2_clearColumn_85 : decode cX2_clearColumn 85 = .ok (.aload_n 0, 1) := by decide +kernel
theorem dX2_clearColumn_86 : decode cX2_clearColumn 86 = .ok (.getfield 23, 3) := by decide +kernel
theorem dX2_clearColumn_89 : decode cX2_clearColumn 89 = .ok (.aload 6, 2) := by decide +kernel
theorem dX2_clearColumn_91 : decode cX2_clearColumn 91 = .ok (.aload_n 0, 1) := by decide +kernel
theorem dX2_clearColumn_92 : decode cX2_clearColumn 92 = .ok (.getfield 16, 3) := by decide +kernel
theorem dX2_clearColumn_95 : decode cX2_clearColumn 95 = .ok (.iconst 1, 1) := by decide +kernel
theorem dX2_clearColumn_96 : decode cX2_clearColumn 96 = .ok (.aload 6, 2) := by decide +kernel
theorem dX2_clearColumn_98 : decode cX2_clearColumn 98 = .ok (.invokevirtual 87, 3) := by decide +kernel
theorem dX2_clearColumn_101 : decode cX2_clearColumn 101 = .ok (.ifCond .ne 5, 3) := by decide +kernel
theorem dX2_clearColumn_104 : decode cX2_clearColumn 104 = .ok (.iconst 0, 1) := by decide +kernel
theorem dX2_clearColumn_105 : decode cX2_clearColumn 105 = .ok (.ireturn, 1) := by decide +kernel
theorem dX2_clearColumn_106 : decode cX2_clearColumn 106 = .ok (.iinc 5 1, 3) := by decide +kernel
theorem dX2_clearColumn_109 : decode cX2_clearColumn 109 = .ok (.goto (-66), 3) := by decide +kernel
theorem dX2_clearColumn_112 : decode cX2_clearColumn 112 = .ok (.aload_n 0, 1) := by decide +kernel
theorem dX2_clearColumn_113 : decode cX2_clearColumn 113 = .ok (.iload_n 1, 1) := by decide +kernel
theorem dX2_clearColumn_114 : decode cX2_clearColumn 114 = .ok (.iload_n 2, 1) := by decide +kernel
theorem dX2_clearColumn_115 : decode cX2_clearColumn 115 = .ok (.invokevirtual 57, 3) := by decide +kernel
theorem dX2_clearColumn_118 : decode cX2_clearColumn 118 = .ok (.invokevirtual 90, 3) := by decide +kernel
theorem dX2_clearColumn_121 : decode cX2_clearColumn 121 = .ok (.iconst 1, 1) := by decide +kernel
theorem dX2_clearColumn_122 : decode cX2_clearColumn 122 = .ok (.ireturn, 1) := by decide +kernel
theorem dX2_hasAnswers_0 : decode cX2_hasAnswers 0 = .ok (.aload_n 0, 1) := by decide +kernel
theorem dX2_hasAnswers_1 : decode cX2_hasAnswers 1 = .ok (.getfield 54, 3) := by decide +kernel
theorem dX2_hasAnswers_4 : decode cX2_hasAnswers 4 = .ok (.istore_n 1, 1) := by decide +kernel
theorem dX2_hasAnswers_5 : decode cX2_hasAnswers 5 = .ok (.iload_n 1, 1) := by decide +kernel
theorem dX2_hasAnswers_6 : decode cX2_hasAnswers 6 = .ok (.aload_n 0, 1) := by decide +kernel
theorem dX2_hasAnswers_7 : decode cX2_hasAnswers 7 = .ok (.getfield 19, 3) := by decide +kernel
theorem dX2_hasAnswers_10 : decode cX2_hasAnswers 10 = .ok (.if_icmp .ge 26, 3) := by decide +kernel
theorem dX2_hasAnswers_13 : decode cX2_hasAnswers 13 = .ok (.aload_n 0, 1) := by decide +kernel
theorem dX2_hasAnswers_14 : decode cX2_hasAnswers 14 = .ok (.iload_n 1, 1) := by decide +kernel
theorem dX2_hasAnswers_15 : decode cX2_hasAnswers 15 = .ok (.aload_n 0, 1) := by decide +kernel
theorem dX2_hasAnswers_16 : decode cX2_hasAnswers 16 = .ok (.getfield 19, 3) := by decide +kernel
theorem dX2_hasAnswers_19 : decode cX2_hasAnswers 19 = .ok (.invokevirtual 57, 3) := by decide +kernel
theorem dX2_hasAnswers_22 : decode cX2_hasAnswers 22 = .ok (.invokevirtual 61, 3) := by decide +kernel
theorem dX2_hasAnswers_25 : decode cX2_hasAnswers 25 = .ok (.ifCond .ne 5, 3) := by decide +kernel
theorem dX2_hasAnswers_28 : decode cX2_hasAnswers 28 = .ok (.iconst 0, 1) := by decide +kernel
theorem dX2_hasAnswers_29 : decode cX2_hasAnswers 29 = .ok (.ireturn, 1) := by decide +kernel
theorem dX2_hasAnswers_30 : decode cX2_hasAnswers 30 = .ok (.iinc 1 1, 3) := by decide +kernel
theorem dX2_hasAnswers_33 : decode cX2_hasAnswers 33 = .ok (.goto (-28), 3) := by decide +kernel
theorem dX2_hasAnswers_36 : decode cX2_hasAnswers 36 = .ok (.iconst 1, 1) := by decide +kernel
theorem dX2_hasAnswers_37 : decode cX2_hasAnswers 37 = .ok (.ireturn, 1) := by decide +kernel
theorem dX2_findUnknowns_0 : decode cX2_findUnknowns 0 = .ok (.iconst 0, 1) := by decide +kernel
theorem dX2_findUnknowns_1 : decode cX2_findUnknowns 1 = .ok (.istore_n 2, 1) := by decide +kernel
theorem dX2_findUnknowns_2 : decode cX2_findUnknowns 2 = .ok (.iload_n 2, 1) := by decide +kernel
theorem dX2_findUnknowns_3 : decode cX2_findUnknowns 3 = .ok (.aload_n 0, 1) := by decide +kernel
theorem dX2_findUnknowns_4 : decode cX2_findUnknowns 4 = .ok (.getfield 19, 3) := by decide +kernel
theorem dX2_findUnknowns_7 : decode cX2_findUnknowns 7 = .ok (.if_icmp .ge 15, 3) := by decide +kernel
theorem dX2_findUnknowns_10 : decode cX2_findUnknowns 10 = .ok (.aload_n 1, 1) := by decide +kernel
theorem dX2_findUnknowns_11 : decode cX2_findUnknowns 11 = .ok (.iload_n 2, 1) := by decide +kernel
theorem dX2_findUnknowns_12 : decode cX2_findUnknowns 12 = .ok (.aaload, 1) := by decide +kernel
theorem dX2_findUnknowns_13 : decode cX2_findUnknowns 13 = .ok (.invokevirtual 90, 3) := by decide +kernel
theorem dX2_findUnknowns_16 : decode cX2_findUnknowns 16 = .ok (.iinc 2 1, 3) := by decide +kernel
theorem dX2_findUnknowns_19 : decode cX2_findUnknowns 19 = .ok (.goto (-17), 3) := by decide +kernel
theorem dX2_findUnknowns_22 : decode cX2_findUnknowns 22 = .ok (.aload_n 0, 1) := by decide +kernel
theorem dX2_findUnknowns_23 : decode cX2_findUnknowns 23 = .ok (.getfield 54, 3) := by decide +kernel
theorem dX2_findUnknowns_26 : decode cX2_findUnknowns 26 = .ok (.iconst 1, 1) := by decide +kernel
theorem dX2_findUnknowns_27 : decode cX2_findUnknowns 27 = .ok (.isub, 1) := by decide +kernel
theorem dX2_findUnknowns_28 : decode cX2_findUnknowns 28 = .ok (.istore_n 2, 1) := by decide +kernel
theorem dX2_findUnknowns_29 : decode cX2_findUnknowns 29 = .ok (.iload_n 2, 1) := by decide +kernel
theorem dX2_findUnknowns_30 : decode cX2_findUnknowns 30 = .ok (.ifCond .lt 125, 3) := by decide +kernel
theorem dX2_findUnknowns_33 : decode cX2_findUnknowns 33 = .ok (.aload_n 0, 1) := by decide +kernel
theorem dX2_findUnknowns_34 : decode cX2_findUnknowns 34 = .ok (.getfield 39, 3) := by decide +kernel
theorem dX2_findUnknowns_37 : decode cX2_findUnknowns 37 = .ok (.iload_n 2, 1) := by decide +kernel
theorem dX2_findUnknowns_38 : decode cX2_findUnknowns 38 = .ok (.iaload, 1) := by decide +kernel
theorem dX2_findUnknowns_39 : decode cX2_findUnknowns 39 = .ok (.istore_n 3, 1) := by decide +kernel
theorem dX2_findUnknowns_40 : decode cX2_findUnknowns 40 = .ok (.aload_n 1, 1) := by decide +kernel
theorem dX2_findUnknowns_41 : decode cX2_findUnknowns 41 = .ok (.iload_n 3, 1) := by decide +kernel
theorem dX2_findUnknowns_42 : decode cX2_findUnknowns 42 = .ok (.aaload, 1) := by decide +kernel
theorem dX2_findUnknowns_43 : decode cX2_findUnknowns 43 = .ok (.astore 4, 2) := by decide +kernel
theorem dX2_findUnknowns_45 : decode cX2_findUnknowns 45 = .ok (.aload 4, 2) := by decide +kernel
theorem dX2_findUnknowns_47 : decode cX2_findUnknowns 47 = .ok (.aload_n 0, 1) := by decide +kernel
theorem dX2_findUnknowns_48 : decode cX2_findUnknowns 48 = .ok (.iload_n 2, 1) := by decide +kernel
theorem dX2_findUnknowns_49 : decode cX2_findUnknowns 49 = .ok (.aload_n 0, 1) := by decide +kernel
theorem dX2_findUnknowns_50 : decode cX2_findUnknowns 50 = .ok (.getfield 19, 3) := by decide +kernel
theorem dX2_findUnknowns_53 : decode cX2_findUnknowns 53 = .ok (.invokevirtual 57, 3) := by decide +kernel
theorem dX2_findUnknowns_56 : decode cX2_findUnknowns 56 = .ok (.invokevirtual 69, 3) := by decide +kernel
theorem dX2_findUnknowns_59 : decode cX2_findUnknowns 59 = .ok (.iload_n 3, 1) := by decide +kernel
theorem dX2_findUnknowns_60 : decode cX2_findUnknowns 60 = .ok (.iconst 1, 1) := by decide +kernel
theorem dX2_findUnknowns_61 : decode cX2_findUnknowns 61 = .ok (.iadd, 1) := by decide +kernel
theorem dX2_findUnknowns_62 : decode cX2_findUnknowns 62 = .ok (.istore 5, 2) := by decide +kernel
theorem dX2_findUnknowns_64 : decode cX2_findUnknowns 64 = .ok (.iload 5, 2) := by decide +kernel
theorem dX2_findUnknowns_66 : decode cX2_findUnknowns 66 = .ok (.aload_n 0, 1) := by decide +kernel
theorem dX2_findUnknowns_67 : decode cX2_findUnknowns 67 = .ok (.getfield 19, 3) := by decide +kernel
theorem dX2_findUnknowns_70 : decode cX2_findUnknowns 70 = .ok (.if_icmp .ge 56, 3) := by decide +kernel
theorem dX2_findUnknowns_73 : decode cX2_findUnknowns 73 = .ok (.aload_n 0, 1) := by decide +kernel
theorem dX2_findUnknowns_74 : decode cX2_findUnknowns 74 = .ok (.getfield 23, 3) := by decide +kernel
theorem dX2_findUnknowns_77 : decode cX2_findUnknowns 77 = .ok (.aload_n 0, 1) := by decide +kernel
theorem dX2_findUnknowns_78 : decode cX2_findUnknowns 78 = .ok (.iload_n 2, 1) := by decide +kernel
theorem dX2_findUnknowns_79 : decode cX2_findUnknowns 79 = .ok (.iload 5, 2) := by decide +kernel
theorem dX2_findUnknowns_81 : decode cX2_findUnknowns 81 = .ok (.invokevirtual 57, 3) := by decide +kernel
theorem dX2_findUnknowns_84 : decode cX2_findUnknowns 84 = .ok (.aload_n 1, 1) := by decide +kernel
theorem dX2_findUnknowns_85 : decode cX2_findUnknowns 85 = .ok (.iload 5, 2) := by decide +kernel
theorem dX2_findUnknowns_87 : decode cX2_findUnknowns 87 = .ok (.aaload, 1) := by decide +kernel
theorem dX2_findUnknowns_88 : decode cX2_findUnknowns 88 = .ok (.iconst 0, 1) := by decide +kernel
theorem dX2_findUnknowns_89 : decode cX2_findUnknowns 89 = .ok (.aload_n 0, 1) := by decide +kernel
theorem dX2_findUnknowns_90 : decode cX2_findUnknowns 90 = .ok (.getfield 16, 3) := by decide +kernel
theorem dX2_findUnknowns_93 : decode cX2_findUnknowns 93 = .ok (.invokevirtual 81, 3) := by decide +kernel
theorem dX2_findUnknowns_96 : decode cX2_findUnknowns 96 = .ok (.ifCond .eq 22, 3) := by decide +kernel
theorem dX2_findUnknowns_99 : decode cX2_findUnknowns 99 = .ok (.aload_n 0, 1) := by decide +kernel
theorem dX2_findUnknowns_100 : decode cX2_findUnknowns 100 = .ok (.getfield 23, 3) := by decide +kernel
theorem dX2_findUnknowns_103 : decode cX2_findUnknowns 103 = .ok (.aload 4, 2) := by decide +kernel
theorem dX2_findUnknowns_105 : decode cX2_findUnknowns 105 = .ok (.aload_n 0, 1) := by decide +kernel
theorem dX2_findUnknowns_106 : decode cX2_findUnknowns 106 = .ok (.getfield 16, 3) := by decide +kernel
theorem dX2_findUnknowns_109 : decode cX2_findUnknowns 109 = .ok (.iconst 1, 1) := by decide +kernel
theorem dX2_findUnknowns_110 : decode cX2_findUnknowns 110 = .ok (.aload 4, 2) := by decide +kernel
theorem dX2_findUnknowns_112 : decode cX2_findUnknowns 112 = .ok (.invokevirtual 87, 3) := by decide +kernel
theorem dX2_findUnknowns_115 : decode cX2_findUnknowns 115 = .ok (.ifCond .ne 5, 3) := by decide +kernel
theorem dX2_findUnknowns_118 : decode cX2_findUnknowns 118 = .ok (.iconst 0, 1) := by decide +kernel
theorem dX2_findUnknowns_119 : decode cX2_findUnknowns 119 = .ok (.ireturn, 1) := by decide +kernel
theorem dX2_findUnknowns_120 : decode cX2_findUnknowns 120 = .ok (.iinc 5 1, 3) := by decide +kernel
theorem dX2_findUnknowns_123 : decode cX2_findUnknowns 123 = .ok (.goto (-59), 3) := by decide +kernel
theorem dX2_findUnknowns_126 : decode cX2_findUnknowns 126 = .ok (.aload_n 0, 1) := by decide +kernel
theorem dX2_findUnknowns_127 : decode cX2_findUnknowns 127 = .ok (.getfield 23, 3) := by decide +kernel
theorem dX2_findUnknowns_130 : decode cX2_findUnknowns 130 = .ok (.aload 4, 2) := by decide +kernel
theorem dX2_findUnknowns_132 : decode cX2_findUnknowns 132 = .ok (.aload_n 0, 1) := by decide +kernel
theorem dX2_findUnknowns_133 : decode cX2_findUnknowns 133 = .ok (.iload_n 2, 1) := by decide +kernel
theorem dX2_findUnknowns_134 : decode cX2_findUnknowns 134 = .ok (.iload_n 3, 1) := by decide +kernel
theorem dX2_findUnknowns_135 : decode cX2_findUnknowns 135 = .ok (.invokevirtual 57, 3) := by decide +kernel
theorem dX2_findUnknowns_138 : decode cX2_findUnknowns 138 = .ok (.iconst 1, 1) := by decide +kernel
theorem dX2_findUnknowns_139 : decode cX2_findUnknowns 139 = .ok (.aload 4, 2) := by decide +kernel
theorem dX2_findUnknowns_141 : decode cX2_findUnknowns 141 = .ok (.invokevirtual 81, 3) := by decide +kernel
theorem dX2_findUnknowns_144 : decode cX2_findUnknowns 144 = .ok (.ifCond .ne 5, 3) := by decide +kernel
theorem dX2_findUnknowns_147 : decode cX2_findUnknowns 147 = .ok (.iconst 0, 1) := by decide +kernel
theorem dX2_findUnknowns_148 : decode cX2_findUnknowns 148 = .ok (.ireturn, 1) := by decide +kernel
theorem dX2_findUnknowns_149 : decode cX2_findUnknowns 149 = .ok (.iinc 2 (-1), 3) := by decide +kernel
theorem dX2_findUnknowns_152 : decode cX2_findUnknowns 152 = .ok (.goto (-123), 3) := by decide +kernel
theorem dX2_findUnknowns_155 : decode cX2_findUnknowns 155 = .ok (.iconst 1, 1) := by decide +kernel
theorem dX2_findUnknowns_156 : decode cX2_findUnknowns 156 = .ok (.ireturn, 1) := by decide +kernel
theorem dX3_init_0 : decode cX3_init 0 = .ok (.aload_n 0, 1) := by decide +kernel
theorem dX3_init_1 : decode cX3_init 1 = .ok (.invokespecial 1, 3) := by decide +kernel
theorem dX3_init_4 : decode cX3_init 4 = .ok (.aload_n 0, 1) := by decide +kernel
theorem dX3_init_5 : decode cX3_init 5 = .ok (.new 7, 3) := by decide +kernel
theorem dX3_init_8 : decode cX3_init 8 = .ok (.dup, 1) := by decide +kernel
theorem dX3_init_9 : decode cX3_init 9 = .ok (.invokespecial 9, 3) := by decide +kernel
theorem dX3_init_12 : decode cX3_init 12 = .ok (.putfield 10, 3) := by decide +kernel
theorem dX3_init_15 : decode cX3_init 15 = .ok (.aload_n 0, 1) := by decide +kernel
theorem dX3_init_16 : decode cX3_init 16 = .ok (.new 7, 3) := by decide +kernel
theorem dX3_init_19 : decode cX3_init 19 = .ok (.dup, 1) := by decide +kernel
theorem dX3_init_20 : decode cX3_init 20 = .ok (.invokespecial 9, 3) := by decide +kernel
theorem dX3_init_23 : decode cX3_init 23 = .ok (.putfield 16, 3) := by decide +kernel
theorem dX3_init_26 : decode cX3_init 26 = .ok (.aload_n 0, 1) := by decide +kernel
theorem dX3_init_27 : decode cX3_init 27 = .ok (.getfield 16, 3) := by decide +kernel
theorem dX3_init_30 : decode cX3_init 30 = .ok (.lconst 1, 1) := by decide +kernel
theorem dX3_init_31 : decode cX3_init 31 = .ok (.invokevirtual 19, 3) := by decide +kernel
theorem dX3_init_34 : decode cX3_init 34 = .ok (.return_, 1) := by decide +kernel
theorem dX3_zeros_0 : decode cX3_zeros 0 = .ok (.iconst 0, 1) := by decide +kernel
theorem dX3_zeros_1 : decode cX3_zeros 1 = .ok (.iload_n 0, 1) := by decide +kernel
theorem dX3_zeros_2 : decode cX3_zeros 2 = .ok (.invokestatic 23, 3) := by decide +kernel
theorem dX3_zeros_5 : decode cX3_zeros 5 = .ok (.anewarray 11, 3) := by decide +kernel
theorem dX3_zeros_8 : decode cX3_zeros 8 = .ok (.astore_n 1, 1) := by decide +kernel
theorem dX3_zeros_9 : decode cX3_zeros 9 = .ok (.iconst 0, 1) := by decide +kernel
theorem dX3_zeros_10 : decode cX3_zeros 10 = .ok (.istore_n 2, 1) := by decide +kernel
theorem dX3_zeros_11 : decode cX3_zeros 11 = .ok (.iload_n 2, 1) := by decide +kernel
theorem dX3_zeros_12 : decode cX3_zeros 12 = .ok (.aload_n 1, 1) := by decide +kernel
theorem dX3_zeros_13 : decode cX3_zeros 13 = .ok (.arraylength, 1) := by decide +kernel
theorem dX3_zeros_14 : decode cX3_zeros 14 = .ok (.if_icmp .ge 19, 3) := by decide +kernel
theorem dX3_zeros_17 : decode cX3_zeros 17 = .ok (.aload_n 1, 1) := by decide +kernel
theorem dX3_zeros_18 : decode cX3_zeros 18 = .ok (.iload_n 2, 1) := by decide +kernel
theorem dX3_zeros_19 : decode cX3_zeros 19 = .ok (.new 11, 3) := by decide +kernel
theorem dX3_zeros_22 : decode cX3_zeros 22 = .ok (.dup, 1) := by decide +kernel
theorem dX3_zeros_23 : decode cX3_zeros 23 = .ok (.invokespecial 29, 3) := by decide +kernel
theorem dX3_zeros_26 : decode cX3_zeros 26 = .ok (.aastore, 1) := by decide +kernel
theorem dX3_zeros_27 : decode cX3_zeros 27 = .ok (.iinc 2 1, 3) := by decide +kernel
theorem dX3_zeros_30 : decode cX3_zeros 30 = .ok (.goto (-19), 3) := by decide +kernel
theorem dX3_zeros_33 : decode cX3_zeros 33 = .ok (.aload_n 1, 1) := by decide +kernel
theorem dX3_zeros_34 : decode cX3_zeros 34 = .ok (.areturn, 1) := by decide +kernel
theorem dX3_isZero_0 : decode cX3_isZero 0 = .ok (.aload_n 0, 1) := by decide +kernel
theorem dX3_isZero_1 : decode cX3_isZero 1 = .ok (.getfield 10, 3) := by decide +kernel
theorem dX3_isZero_4 : decode cX3_isZero 4 = .ok (.invokevirtual 30, 3) := by decide +kernel
theorem dX3_isZero_7 : decode cX3_isZero 7 = .ok (.ireturn, 1) := by decide +kernel
theorem dX3_size_0 : decode cX3_size 0 = .ok (.aload_n 0, 1) := by decide +kernel
theorem dX3_size_1 : decode cX3_size 1 = .ok (.getfield 10, 3) := by decide +kernel
theorem dX3_size_4 : decode cX3_size 4 = .ok (.invokevirtual 34, 3) := by decide +kernel
theorem dX3_size_7 : decode cX3_size 7 = .ok (.aload_n 0, 1) := by decide +kernel
theorem dX3_size_8 : decode cX3_size 8 = .ok (.getfield 16, 3) := by decide +kernel
theorem dX3_size_11 : decode cX3_size 11 = .ok (.invokevirtual 34, 3) := by decide +kernel
theorem dX3_size_14 : decode cX3_size 14 = .ok (.iadd, 1) := by decide +kernel
theorem dX3_size_15 : decode cX3_size 15 = .ok (.ireturn, 1) := by decide +kernel
theorem dX3_setZero_0 : decode cX3_setZero 0 = .ok (.aload_n 0, 1) := by decide +kernel
theorem dX3_setZero_1 : decode cX3_setZero 1 = .ok (.iconst 0, 1) := by decide +kernel
theorem dX3_setZero_2 : decode cX3_setZero 2 = .ok (.putfield 38, 3) := by decide +kernel
theorem dX3_setZero_5 : decode cX3_setZero 5 = .ok (.aload_n 0, 1) := by decide +kernel
theorem dX3_setZero_6 : decode cX3_setZero 6 = .ok (.getfield 10, 3) := by decide +kernel
theorem dX3_setZero_9 : decode cX3_setZero 9 = .ok (.lconst 0, 1) := by decide +kernel
theorem dX3_setZero_10 : decode cX3_setZero 10 = .ok (.invokevirtual 19, 3) := by decide +kernel
theorem dX3_setZero_13 : decode cX3_setZero 13 = .ok (.aload_n 0, 1) := by decide +kernel
theorem dX3_setZero_14 : decode cX3_setZero 14 = .ok (.getfield 16, 3) := by decide +kernel
theorem dX3_setZero_17 : decode cX3_setZero 17 = .ok (.lconst 1, 1) := by decide +kernel
theorem dX3_setZero_18 : decode cX3_setZero 18 = .ok (.invokevirtual 19, 3) := by decide +kernel
theorem dX3_setZero_21 : decode cX3_setZero 21 = .ok (.return_, 1) := by decide +kernel
theorem dX3_setWhole_0 : decode cX3_setWhole 0 = .ok (.aload_n 0, 1) := by decide +kernel
theorem dX3_setWhole_1 : decode cX3_setWhole 1 = .ok (.iconst 0, 1) := by decide +kernel
theorem dX3_setWhole_2 : decode cX3_setWhole 2 = .ok (.putfield 38, 3) := by decide +kernel
theorem dX3_setWhole_5 : decode cX3_setWhole 5 = .ok (.aload_n 0, 1) := by decide +kernel
theorem dX3_setWhole_6 : decode cX3_setWhole 6 = .ok (.getfield 10, 3) := by decide +kernel
theorem dX3_setWhole_9 : decode cX3_setWhole 9 = .ok (.aload_n 1, 1) := by decide +kernel
theorem dX3_setWhole_10 : decode cX3_setWhole 10 = .ok (.invokevirtual 42, 3) := by decide +kernel
theorem dX3_setWhole_13 : decode cX3_setWhole 13 = .ok (.aload_n 0, 1) := by decide +kernel
theorem dX3_setWhole_14 : decode cX3_setWhole 14 = .ok (.getfield 16, 3) := by decide +kernel
theorem dX3_setWhole_17 : decode cX3_setWhole 17 = .ok (.lconst 1, 1) := by decide +kernel
theorem dX3_setWhole_18 : decode cX3_setWhole 18 = .ok (.invokevirtual 19, 3) := by decide +kernel
theorem dX3_setWhole_21 : decode cX3_setWhole 21 = .ok (.return_, 1) := by decide +kernel
theorem dX3_copy_0 : decode cX3_copy 0 = .ok (.aload_n 0, 1) := by decide +kernel
theorem dX3_copy_1 : decode cX3_copy 1 = .ok (.aload_n 1, 1) := by decide +kernel
theorem dX3_copy_2 : decode cX3_copy 2 = .ok (.getfield 38, 3) := by decide +kernel
theorem dX3_copy_5 : decode cX3_copy 5 = .ok (.aload_n 1, 1) := by decide +kernel
theorem dX3_copy_6 : decode cX3_copy 6 = .ok (.getfield 10, 3) := by decide +kernel
theorem dX3_copy_9 : decode cX3_copy 9 = .ok (.aload_n 1, 1) := by decide +kernel
theorem dX3_copy_10 : decode cX3_copy 10 = .ok (.getfield 16, 3) := by decide +kernel
theorem dX3_copy_13 : decode cX3_copy 13 = .ok (.invokevirtual 46, 3) := by decide +kernel
theorem dX3_copy_16 : decode cX3_copy 16 = .ok (.return_, 1) := by decide +kernel
theorem dX3_set_0 : decode cX3_set 0 = .ok (.aload_n 0, 1) := by decide +kernel
theorem dX3_set_1 : decode cX3_set 1 = .ok (.iload_n 1, 1) := by decide +kernel
theorem dX3_set_2 : decode cX3_set 2 = .ok (.ifCond .eq 14, 3) := by decide +kernel
theorem dX3_set_5 : decode cX3_set 5 = .ok (.aload_n 2, 1) := by decide +kernel
theorem dX3_set_6 : decode cX3_set 6 = .ok (.invokevirtual 30, 3) := by decide +kernel
theorem dX3_set_9 : decode cX3_set 9 = .ok (.ifCond .ne 7, 3) := by decide +kernel
theorem dX3_set_12 : decode cX3_set 12 = .ok (.iconst 1, 1) := by decide +kernel
theorem dX3_set_13 : decode cX3_set 13 = .ok (.goto 4, 3) := by decide +kernel
theorem dX3_set_16 : decode cX3_set 16 = .ok (.iconst 0, 1) := by decide +kernel
theorem dX3_set_17 : decode cX3_set 17 = .ok (.putfield 38, 3) := by decide +kernel
theorem dX3_set_20 : decode cX3_set 20 = .ok (.aload_n 0, 1) := by decide +kernel
theorem dX3_set_21 : decode cX3_set 21 = .ok (.getfield 10, 3) := by decide +kernel
theorem dX3_set_24 : decode cX3_set 24 = .ok (.aload_n 2, 1) := by decide +kernel
theorem dX3_set_25 : decode cX3_set 25 = .ok (.invokevirtual 42, 3) := by decide +kernel
theorem dX3_set_28 : decode cX3_set 28 = .ok (.aload_n 0, 1) := by decide +kernel
theorem dX3_set_29 : decode cX3_set 29 = .ok (.getfield 16, 3) := by decide +kernel
theorem dX3_set_32 : decode cX3_set 32 = .ok (.aload_n 3, 1) := by decide +kernel
theorem dX3_set_33 : decode cX3_set 33 = .ok (.invokevirtual 42, 3) := by decide +kernel
theorem dX3_set_36 : decode cX3_set 36 = .ok (.return_, 1) := by decide +kernel
theorem dX3_negate_0 : decode cX3_negate 0 = .ok (.aload_n 0, 1) := by decide +kernel
theorem dX3_negate_1 : decode cX3_negate 1 = .ok (.aload_n 0, 1) := by decide +kernel
theorem dX3_negate_2 : decode cX3_negate 2 = .ok (.getfield 38, 3) := by decide +kernel
theorem dX3_negate_5 : decode cX3_negate 5 = .ok (.ifCond .ne 17, 3) := by decide +kernel
theorem dX3_negate_8 : decode cX3_negate 8 = .ok (.aload_n 0, 1) := by decide +kernel
theorem dX3_negate_9 : decode cX3_negate 9 = .ok (.getfield 10, 3) := by decide +kernel
theorem dX3_negate_12 : decode cX3_negate 12 = .ok (.invokevirtual 30, 3) := by decide +kernel
theorem dX3_negate_15 : decode cX3_negate 15 = .ok (.ifCond .ne 7, 3) := by decide +kernel
theorem dX3_negate_18 : decode cX3_negate 18 = .ok (.iconst 1, 1) := by decide +kernel
theorem dX3_negate_19 : decode cX3_negate 19 = .ok (.goto 4, 3) := by decide +kernel
theorem dX3_negate_22 : decode cX3_negate 22 = .ok (.iconst 0, 1) := by decide +kernel
theorem dX3_negate_23 : decode cX3_negate 23 = .ok (.putfield 38, 3) := by decide +kernel
theorem dX3_negate_26 : decode cX3_negate 26 = .ok (.return_, 1) := by decide +kernel
theorem dX4_init_0 : decode cX4_init 0 = .ok (.aload_n 0, 1) := by decide +kernel
theorem dX4_init_1 : decode cX4_init 1 = .ok (.invokespecial 1, 3) := by decide +kernel
theorem dX4_init_4 : decode cX4_init 4 = .ok (.aload_n 0, 1) := by decide +kernel
theorem dX4_init_5 : decode cX4_init 5 = .ok (.new 7, 3) := by decide +kernel
theorem dX4_init_8 : decode cX4_init 8 = .ok (.dup, 1) := by decide +kernel
theorem dX4_init_9 : decode cX4_init 9 = .ok (.invokespecial 9, 3) := by decide +kernel
theorem dX4_init_12 : decode cX4_init 12 = .ok (.putfield 10, 3) := by decide +kernel
theorem dX4_init_15 : decode cX4_init 15 = .ok (.aload_n 0, 1) := by decide +kernel
theorem dX4_init_16 : decode cX4_init 16 = .ok (.new 7, 3) := by decide +kernel
theorem dX4_init_19 : decode cX4_init 19 = .ok (.dup, 1) := by decide +kernel
theorem dX4_init_20 : decode cX4_init 20 = .ok (.invokespecial 9, 3) := by decide +kernel
theorem dX4_init_23 : decode cX4_init 23 = .ok (.putfield 16, 3) := by decide +kernel
theorem dX4_init_26 : decode cX4_init 26 = .ok (.aload_n 0, 1) := by decide +kernel
theorem dX4_init_27 : decode cX4_init 27 = .ok (.new 7, 3) := by decide +kernel
theorem dX4_init_30 : decode cX4_init 30 = .ok (.dup, 1) := by decide +kernel
theorem dX4_init_31 : decode cX4_init 31 = .ok (.invokespecial 9, 3) := by decide +kernel
theorem dX4_init_34 : decode cX4_init 34 = .ok (.putfield 19, 3) := by decide +kernel
theorem dX4_init_37 : decode cX4_init 37 = .ok (.aload_n 0, 1) := by decide +kernel
theorem dX4_init_38 : decode cX4_init 38 = .ok (.new 7, 3) := by decide +kernel
theorem dX4_init_41 : decode cX4_init 41 = .ok (.dup, 1) := by decide +kernel
theorem dX4_init_42 : decode cX4_init 42 = .ok (.invokespecial 9, 3) := by decide +kernel
theorem dX4_init_45 : decode cX4_init 45 = .ok (.putfield 22, 3) := by decide +kernel
theorem dX4_init_48 : decode cX4_init 48 = .ok (.aload_n 0, 1) := by decide +kernel
theorem dX4_init_49 : decode cX4_init 49 = .ok (.new 7, 3) := by decide +kernel
theorem dX4_init_52 : decode cX4_init 52 = .ok (.dup, 1) := by decide +kernel
theorem dX4_init_53 : decode cX4_init 53 = .ok (.invokespecial 9, 3) := by decide +kernel
theorem dX4_init_56 : decode cX4_init 56 = .ok (.putfield 25, 3) := by decide +kernel
theorem dX4_init_59 : decode cX4_init 59 = .ok (.aload_n 0, 1) := by decide +kernel
theorem dX4_init_60 : decode cX4_init 60 = .ok (.new 7, 3) := by decide +kernel
theorem dX4_init_63 : decode cX4_init 63 = .ok (.dup, 1) := by decide +kernel
theorem dX4_init_64 : decode cX4_init 64 = .ok (.invokespecial 9, 3) := by decide +kernel
theorem dX4_init_67 : decode cX4_init 67 = .ok (.putfield 28, 3) := by decide +kernel
theorem dX4_init_70 : decode cX4_init 70 = .ok (.aload_n 0, 1) := by decide +kernel
theorem dX4_init_71 : decode cX4_init 71 = .ok (.new 7, 3) := by decide +kernel
theorem dX4_init_74 : decode cX4_init 74 = .ok (.dup, 1) := by decide +kernel
theorem dX4_init_75 : decode cX4_init 75 = .ok (.invokespecial 9, 3) := by decide +kernel
theorem dX4_init_78 : decode cX4_init 78 = .ok (.putfield 31, 3) := by decide +kernel
theorem dX4_init_81 : decode cX4_init 81 = .ok (.aload_n 0, 1) := by decide +kernel
theorem dX4_init_82 : decode cX4_init 82 = .ok (.new 7, 3) := by decide +kernel
theorem dX4_init_85 : decode cX4_init 85 = .ok (.dup, 1) := by decide +kernel
theorem dX4_init_86 : decode cX4_init 86 = .ok (.invokespecial 9, 3) := by decide +kernel
theorem dX4_init_89 : decode cX4_init 89 = .ok (.putfield 34, 3) := by decide +kernel
theorem dX4_init_92 : decode cX4_init 92 = .ok (.aload_n 0, 1) := by decide +kernel
theorem dX4_init_93 : decode cX4_init 93 = .ok (.aload_n 1, 1) := by decide +kernel
theorem dX4_init_94 : decode cX4_init 94 = .ok (.putfield 37, 3) := by decide +kernel
theorem dX4_init_97 : decode cX4_init 97 = .ok (.aload_n 0, 1) := by decide +kernel
theorem dX4_init_98 : decode cX4_init 98 = .ok (.getfield 16, 3) := by decide +kernel
theorem dX4_init_101 : decode cX4_init 101 = .ok (.lconst 1, 1) := by decide +kernel
theorem dX4_init_102 : decode cX4_init 102 = .ok (.invokevirtual 41, 3) := by decide +kernel
theorem dX4_init_105 : decode cX4_init 105 = .ok (.return_, 1) := by decide +kernel
theorem dX4_forget_0 : decode cX4_forget 0 = .ok (.aload_n 0, 1) := by decide +kernel
theorem dX4_forget_1 : decode cX4_forget 1 = .ok (.getfield 10, 3) := by decide +kernel
theorem dX4_forget_4 : decode cX4_forget 4 = .ok (.lconst 0, 1) := by decide +kernel
theorem dX4_forget_5 : decode cX4_forget 5 = .ok (.invokevirtual 41, 3) := by decide +kernel
theorem dX4_forget_8 : decode cX4_forget 8 = .ok (.aload_n 0, 1) := by decide +kernel
theorem dX4_forget_9 : decode cX4_forget 9 = .ok (.getfield 16, 3) := by decide +kernel
theorem dX4_forget_12 : decode cX4_forget 12 = .ok (.lconst 1, 1) := by decide +kernel
theorem dX4_forget_13 : decode cX4_forget 13 = .ok (.invokevirtual 41, 3) := by decide +kernel
theorem dX4_forget_16 : decode cX4_forget 16 = .ok (.aload_n 0, 1) := by decide +kernel
theorem dX4_forget_17 : decode cX4_forget 17 = .ok (.iconst 0, 1) := by decide +kernel
theorem dX4_forget_18 : decode cX4_forget 18 = .ok (.putfield 45, 3) := by decide +kernel
theorem dX4_forget_21 : decode cX4_forget 21 = .ok (.return_, 1) := by decide +kernel
theorem dX4_has_0 : decode cX4_has 0 = .ok (.aload_n 0, 1) := by decide +kernel
theorem dX4_has_1 : decode cX4_has 1 = .ok (.getfield 16, 3) := by decide +kernel
theorem dX4_has_4 : decode cX4_has 4 = .ok (.iload_n 1, 1) := by decide +kernel
theorem dX4_has_5 : decode cX4_has 5 = .ok (.invokevirtual 49, 3) := by decide +kernel
theorem dX4_has_8 : decode cX4_has 8 = .ok (.ifCond .ne 7, 3) := by decide +kernel
theorem dX4_has_11 : decode cX4_has 11 = .ok (.iconst 1, 1) := by decide +kernel
theorem dX4_has_12 : decode cX4_has 12 = .ok (.goto 4, 3) := by decide +kernel
theorem dX4_has_15 : decode cX4_has 15 = .ok (.iconst 0, 1) := by decide +kernel
theorem dX4_has_16 : decode cX4_has 16 = .ok (.ireturn, 1) := by decide +kernel
theorem dX4_join_0 : decode cX4_join 0 = .ok (.aload_n 0, 1) := by decide +kernel
theorem dX4_join_1 : decode cX4_join 1 = .ok (.getfield 19, 3) := by decide +kernel
theorem dX4_join_4 : decode cX4_join 4 = .ok (.aload_n 0, 1) := by decide +kernel
theorem dX4_join_5 : decode cX4_join 5 = .ok (.getfield 16, 3) := by decide +kernel
theorem dX4_join_8 : decode cX4_join 8 = .ok (.invokevirtual 53, 3) := by decide +kernel
theorem dX4_join_11 : decode cX4_join 11 = .ok (.aload_n 0, 1) := by decide +kernel
theorem dX4_join_12 : decode cX4_join 12 = .ok (.getfield 19, 3) := by decide +kernel
theorem dX4_join_15 : decode cX4_join 15 = .ok (.iload_n 1, 1) := by decide +kernel
theorem dX4_join_16 : decode cX4_join 16 = .ok (.invokevirtual 57, 3) := by decide +kernel
theorem dX4_join_19 : decode cX4_join 19 = .ok (.aload_n 0, 1) := by decide +kernel
theorem dX4_join_20 : decode cX4_join 20 = .ok (.getfield 19, 3) := by decide +kernel
theorem dX4_join_23 : decode cX4_join 23 = .ok (.invokevirtual 61, 3) := by decide +kernel
theorem dX4_join_26 : decode cX4_join 26 = .ok (.ifCond .ne 5, 3) := by decide +kernel
theorem dX4_join_29 : decode cX4_join 29 = .ok (.iconst 0, 1) := by decide +kernel
theorem dX4_join_30 : decode cX4_join 30 = .ok (.ireturn, 1) := by decide +kernel
theorem dX4_join_31 : decode cX4_join 31 = .ok (.iload_n 2, 1) := by decide +kernel
theorem dX4_join_32 : decode cX4_join 32 = .ok (.i2l, 1) := by decide +kernel
theorem dX4_join_33 : decode cX4_join 33 = .ok (.aload_n 0, 1) := by decide +kernel
theorem dX4_join_34 : decode cX4_join 34 = .ok (.getfield 10, 3) := by decide +kernel
theorem dX4_join_37 : decode cX4_join 37 = .ok (.iload_n 1, 1) := by decide +kernel
theorem dX4_join_38 : decode cX4_join 38 = .ok (.invokevirtual 49, 3) := by decide +kernel
theorem dX4_join_41 : decode cX4_join 41 = .ok (.i2l, 1) := by decide +kernel
theorem dX4_join_42 : decode cX4_join 42 = .ok (.lsub, 1) := by decide +kernel
theorem dX4_join_43 : decode cX4_join 43 = .ok (.lstore_n 3, 1) := by decide +kernel
theorem dX4_join_44 : decode cX4_join 44 = .ok (.lload_n 3, 1) := by decide +kernel
theorem dX4_join_45 : decode cX4_join 45 = .ok (.lconst 0, 1) := by decide +kernel
theorem dX4_join_46 : decode cX4_join 46 = .ok (.lcmp, 1) := by decide +kernel
theorem dX4_join_47 : decode cX4_join 47 = .ok (.ifCond .ge 8, 3) := by decide +kernel
theorem dX4_join_50 : decode cX4_join 50 = .ok (.lload_n 3, 1) := by decide +kernel
theorem dX4_join_51 : decode cX4_join 51 = .ok (.iload_n 1, 1) := by decide +kernel
theorem dX4_join_52 : decode cX4_join 52 = .ok (.i2l, 1) := by decide +kernel
theorem dX4_join_53 : decode cX4_join 53 = .ok (.ladd, 1) := by decide +kernel
theorem dX4_join_54 : decode cX4_join 54 = .ok (.lstore_n 3, 1) := by decide +kernel
theorem dX4_join_55 : decode cX4_join 55 = .ok (.aload_n 0, 1) := by decide +kernel
theorem dX4_join_56 : decode cX4_join 56 = .ok (.getfield 16, 3) := by decide +kernel
theorem dX4_join_59 : decode cX4_join 59 = .ok (.lload_n 3, 1) := by decide +kernel
theorem dX4_join_60 : decode cX4_join 60 = .ok (.aload_n 0, 1) := by decide +kernel
theorem dX4_join_61 : decode cX4_join 61 = .ok (.getfield 16, 3) := by decide +kernel
theorem dX4_join_64 : decode cX4_join 64 = .ok (.iload_n 1, 1) := by decide +kernel
theorem dX4_join_65 : decode cX4_join 65 = .ok (.invokevirtual 49, 3) := by decide +kernel
theorem dX4_join_68 : decode cX4_join 68 = .ok (.iload_n 1, 1) := by decide +kernel
theorem dX4_join_69 : decode cX4_join 69 = .ok (.invokestatic 65, 3) := by decide +kernel
theorem dX4_join_72 : decode cX4_join 72 = .ok (.lmul, 1) := by decide +kernel
theorem dX4_join_73 : decode cX4_join 73 = .ok (.iload_n 1, 1) := by decide +kernel
theorem dX4_join_74 : decode cX4_join 74 = .ok (.i2l, 1) := by decide +kernel
theorem dX4_join_75 : decode cX4_join 75 = .ok (.lrem, 1) := by decide +kernel
theorem dX4_join_76 : decode cX4_join 76 = .ok (.l2i, 1) := by decide +kernel
theorem dX4_join_77 : decode cX4_join 77 = .ok (.invokevirtual 57, 3) := by decide +kernel
theorem dX4_join_80 : decode cX4_join 80 = .ok (.aload_n 0, 1) := by decide +kernel
theorem dX4_join_81 : decode cX4_join 81 = .ok (.getfield 10, 3) := by decide +kernel
theorem dX4_join_84 : decode cX4_join 84 = .ok (.aload_n 0, 1) := by decide +kernel
theorem dX4_join_85 : decode cX4_join 85 = .ok (.getfield 16, 3) := by decide +kernel
theorem dX4_join_88 : decode cX4_join 88 = .ok (.invokevirtual 71, 3) := by decide +kernel
theorem dX4_join_91 : decode cX4_join 91 = .ok (.aload_n 0, 1) := by decide +kernel
theorem dX4_join_92 : decode cX4_join 92 = .ok (.getfield 16, 3) := by decide +kernel
theorem dX4_join_95 : decode cX4_join 95 = .ok (.aload_n 0, 1) := by decide +kernel
theorem dX4_join_96 : decode cX4_join 96 = .ok (.getfield 19, 3) := by decide +kernel
theorem dX4_join_99 : decode cX4_join 99 = .ok (.invokevirtual 53, 3) := by decide +kernel
theorem dX4_join_102 : decode cX4_join 102 = .ok (.aload_n 0, 1) := by decide +kernel
theorem dX4_join_103 : decode cX4_join 103 = .ok (.dup, 1) := by decide +kernel
theorem dX4_join_104 : decode cX4_join 104 = .ok (.getfield 45, 3) := by decide +kernel
theorem dX4_join_107 : decode cX4_join 107 = .ok (.iconst 1, 1) := by decide +kernel
theorem dX4_join_108 : decode cX4_join 108 = .ok (.iadd, 1) := by decide +kernel
theorem dX4_join_109 : decode cX4_join 109 = .ok (.putfield 45, 3) := by decide +kernel
theorem dX4_join_112 : decode cX4_join 112 = .ok (.iconst 1, 1) := by decide +kernel
theorem dX4_join_113 : decode cX4_join 113 = .ok (.ireturn, 1) := by decide +kernel
theorem dX4_tell_0 : decode cX4_tell 0 = .ok (.aload_n 0, 1) := by decide +kernel
theorem dX4_tell_1 : decode cX4_tell 1 = .ok (.getfield 25, 3) := by decide +kernel
theorem dX4_tell_4 : decode cX4_tell 4 = .ok (.astore_n 2, 1) := by decide +kernel
theorem dX4_tell_5 : decode cX4_tell 5 = .ok (.aload_n 0, 1) := by decide +kernel
theorem dX4_tell_6 : decode cX4_tell 6 = .ok (.getfield 28, 3) := by decide +kernel
theorem dX4_tell_9 : decode cX4_tell 9 = .ok (.astore_n 3, 1) := by decide +kernel
theorem dX4_tell_10 : decode cX4_tell 10 = .ok (.aload_n 0, 1) := by decide +kernel
theorem dX4_tell_11 : decode cX4_tell 11 = .ok (.getfield 31, 3) := by decide +kernel
theorem dX4_tell_14 : decode cX4_tell 14 = .ok (.astore 4, 2) := by decide +kernel
theorem dX4_tell_16 : decode cX4_tell 16 = .ok (.aload_n 0, 1) := by decide +kernel
theorem dX4_tell_17 : decode cX4_tell 17 = .ok (.getfield 34, 3) := by decide +kernel
theorem dX4_tell_20 : decode cX4_tell 20 = .ok (.astore 5, 2) := by decide +kernel
theorem dX4_tell_22 : decode cX4_tell 22 = .ok (.aload_n 2, 1) := by decide +kernel
theorem dX4_tell_23 : decode cX4_tell 23 = .ok (.aload_n 0, 1) := by decide +kernel
theorem dX4_tell_24 : decode cX4_tell 24 = .ok (.getfield 16, 3) := by decide +kernel
theorem dX4_tell_27 : decode cX4_tell 27 = .ok (.invokevirtual 53, 3) := by decide +kernel
theorem dX4_tell_30 : decode cX4_tell 30 = .ok (.aload_n 3, 1) := by decide +kernel
theorem dX4_tell_31 : decode cX4_tell 31 = .ok (.aload_n 0, 1) := by decide +kernel
theorem dX4_tell_32 : decode cX4_tell 32 = .ok (.getfield 10, 3) := by decide +kernel
theorem dX4_tell_35 : decode cX4_tell 35 = .ok (.invokevirtual 53, 3) := by decide +kernel
theorem dX4_tell_38 : decode cX4_tell 38 = .ok (.aload 4, 2) := by decide +kernel
theorem dX4_tell_40 : decode cX4_tell 40 = .ok (.lconst 0, 1) := by decide +kernel
theorem dX4_tell_41 : decode cX4_tell 41 = .ok (.invokevirtual 41, 3) := by decide +kernel
theorem dX4_tell_44 : decode cX4_tell 44 = .ok (.aload 5, 2) := by decide +kernel
theorem dX4_tell_46 : decode cX4_tell 46 = .ok (.lconst 1, 1) := by decide +kernel
theorem dX4_tell_47 : decode cX4_tell 47 = .ok (.invokevirtual 41, 3) := by decide +kernel
theorem dX4_tell_50 : decode cX4_tell 50 = .ok (.iconst 0, 1) := by decide +kernel
theorem dX4_tell_51 : decode cX4_tell 51 = .ok (.istore 6, 2) := by decide +kernel
theorem dX4_tell_53 : decode cX4_tell 53 = .ok (.iconst 0, 1) := by decide +kernel
theorem dX4_tell_54 : decode cX4_tell 54 = .ok (.istore 7, 2) := by decide +kernel
theorem dX4_tell_56 : decode cX4_tell 56 = .ok (.iload 7, 2) := by decide +kernel
theorem dX4_tell_58 : decode cX4_tell 58 = .ok (.ldc 76, 2) := by decide +kernel
theorem dX4_tell_60 : decode cX4_tell 60 = .ok (.if_icmp .ge 84, 3) := by decide +kernel
theorem dX4_tell_63 : decode cX4_tell 63 = .ok (.aload_n 0, 1) := by decide +kernel
theorem dX4_tell_64 : decode cX4_tell 64 = .ok (.aload_n 3, 1) := by decide +kernel
theorem dX4_tell_65 : decode cX4_tell 65 = .ok (.invokevirtual 77, 3) := by decide +kernel
theorem dX4_tell_68 : decode cX4_tell 68 = .ok (.ifCond .ne 76, 3) := by decide +kernel
theorem dX4_tell_71 : decode cX4_tell 71 = .ok (.aload_n 0, 1) := by decide +kernel
theorem dX4_tell_72 : decode cX4_tell 72 = .ok (.getfield 37, 3) := by decide +kernel
theorem dX4_tell_75 : decode cX4_tell 75 = .ok (.aload_n 2, 1) := by decide +kernel
theorem dX4_tell_76 : decode cX4_tell 76 = .ok (.aload_n 3, 1) := by decide +kernel
theorem dX4_tell_77 : decode cX4_tell 77 = .ok (.aload_n 0, 1) := by decide +kernel
theorem dX4_tell_78 : decode cX4_tell 78 = .ok (.getfield 22, 3) := by decide +kernel
theorem dX4_tell_81 : decode cX4_tell 81 = .ok (.invokevirtual 81, 3) := by decide +kernel
theorem dX4_tell_84 : decode cX4_tell 84 = .ok (.aload_n 0, 1) := by decide +kernel
theorem dX4_tell_85 : decode cX4_tell 85 = .ok (.getfield 19, 3) := by decide +kernel
theorem dX4_tell_88 : decode cX4_tell 88 = .ok (.aload_n 0, 1) := by decide +kernel
theorem dX4_tell_89 : decode cX4_tell 89 = .ok (.getfield 22, 3) := by decide +kernel
theorem dX4_tell_92 : decode cX4_tell 92 = .ok (.aload 5, 2) := by decide +kernel
theorem dX4_tell_94 : decode cX4_tell 94 = .ok (.invokevirtual 85, 3) := by decide +kernel
theorem dX4_tell_97 : decode cX4_tell 97 = .ok (.aload 4, 2) := by decide +kernel
theorem dX4_tell_99 : decode cX4_tell 99 = .ok (.aload_n 0, 1) := by decide +kernel
theorem dX4_tell_100 : decode cX4_tell 100 = .ok (.getfield 19, 3) := by decide +kernel
theorem dX4_tell_103 : decode cX4_tell 103 = .ok (.invokevirtual 71, 3) := by decide +kernel
theorem dX4_tell_106 : decode cX4_tell 106 = .ok (.aload_n 2, 1) := by decide +kernel
theorem dX4_tell_107 : decode cX4_tell 107 = .ok (.astore 8, 2) := by decide +kernel
theorem dX4_tell_109 : decode cX4_tell 109 = .ok (.aload_n 3, 1) := by decide +kernel
theorem dX4_tell_110 : decode cX4_tell 110 = .ok (.astore_n 2, 1) := by decide +kernel
theorem dX4_tell_111 : decode cX4_tell 111 = .ok (.aload 8, 2) := by decide +kernel
theorem dX4_tell_113 : decode cX4_tell 113 = .ok (.astore_n 3, 1) := by decide +kernel
theorem dX4_tell_114 : decode cX4_tell 114 = .ok (.aload 4, 2) := by decide +kernel
theorem dX4_tell_116 : decode cX4_tell 116 = .ok (.astore 8, 2) := by decide +kernel
theorem dX4_tell_118 : decode cX4_tell 118 = .ok (.aload 5, 2) := by decide +kernel
theorem dX4_tell_120 : decode cX4_tell 120 = .ok (.astore 4, 2) := by decide +kernel
theorem dX4_tell_122 : decode cX4_tell 122 = .ok (.aload 8, 2) := by decide +kernel
theorem dX4_tell_124 : decode cX4_tell 124 = .ok (.astore 5, 2) := by decide +kernel
theorem dX4_tell_126 : decode cX4_tell 126 = .ok (.iload 6, 2) := by decide +kernel
theorem dX4_tell_128 : decode cX4_tell 128 = .ok (.ifCond .ne 7, 3) := by decide +kernel
theorem dX4_tell_131 : decode cX4_tell 131 = .ok (.iconst 1, 1) := by decide +kernel
theorem dX4_tell_132 : decode cX4_tell 132 = .ok (.goto 4, 3) := by decide +kernel
theorem dX4_tell_135 : decode cX4_tell 135 = .ok (.iconst 0, 1) := by decide +kernel
theorem dX4_tell_136 : decode cX4_tell 136 = .ok (.istore 6, 2) := by decide +kernel
