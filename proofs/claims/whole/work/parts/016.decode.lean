theorem dX10_meet_88 : decode cX10_meet 88 = .ok (.invokevirtual 213, 3) := by decide +kernel
theorem dX10_meet_91 : decode cX10_meet 91 = .ok (.i2l, 1) := by decide +kernel
theorem dX10_meet_92 : decode cX10_meet 92 = .ok (.lsub, 1) := by decide +kernel
theorem dX10_meet_93 : decode cX10_meet 93 = .ok (.iload_n 1, 1) := by decide +kernel
theorem dX10_meet_94 : decode cX10_meet 94 = .ok (.i2l, 1) := by decide +kernel
theorem dX10_meet_95 : decode cX10_meet 95 = .ok (.ladd, 1) := by decide +kernel
theorem dX10_meet_96 : decode cX10_meet 96 = .ok (.iload_n 1, 1) := by decide +kernel
theorem dX10_meet_97 : decode cX10_meet 97 = .ok (.i2l, 1) := by decide +kernel
theorem dX10_meet_98 : decode cX10_meet 98 = .ok (.lrem, 1) := by decide +kernel
theorem dX10_meet_99 : decode cX10_meet 99 = .ok (.lstore 4, 2) := by decide +kernel
theorem dX10_meet_101 : decode cX10_meet 101 = .ok (.aload_n 0, 1) := by decide +kernel
theorem dX10_meet_102 : decode cX10_meet 102 = .ok (.sipush 224, 3) := by decide +kernel
theorem dX10_meet_105 : decode cX10_meet 105 = .ok (.lload 4, 2) := by decide +kernel
theorem dX10_meet_107 : decode cX10_meet 107 = .ok (.iload_n 3, 1) := by decide +kernel
theorem dX10_meet_108 : decode cX10_meet 108 = .ok (.iload_n 1, 1) := by decide +kernel
theorem dX10_meet_109 : decode cX10_meet 109 = .ok (.invokestatic 216, 3) := by decide +kernel
theorem dX10_meet_112 : decode cX10_meet 112 = .ok (.i2l, 1) := by decide +kernel
theorem dX10_meet_113 : decode cX10_meet 113 = .ok (.lmul, 1) := by decide +kernel
theorem dX10_meet_114 : decode cX10_meet 114 = .ok (.iload_n 1, 1) := by decide +kernel
theorem dX10_meet_115 : decode cX10_meet 115 = .ok (.i2l, 1) := by decide +kernel
theorem dX10_meet_116 : decode cX10_meet 116 = .ok (.lrem, 1) := by decide +kernel
theorem dX10_meet_117 : decode cX10_meet 117 = .ok (.invokevirtual 112, 3) := by decide +kernel
theorem dX10_meet_120 : decode cX10_meet 120 = .ok (.aload_n 0, 1) := by decide +kernel
theorem dX10_meet_121 : decode cX10_meet 121 = .ok (.sipush 223, 3) := by decide +kernel
theorem dX10_meet_124 : decode cX10_meet 124 = .ok (.sipush 224, 3) := by decide +kernel
theorem dX10_meet_127 : decode cX10_meet 127 = .ok (.sipush 225, 3) := by decide +kernel
theorem dX10_meet_130 : decode cX10_meet 130 = .ok (.invokevirtual 102, 3) := by decide +kernel
theorem dX10_meet_133 : decode cX10_meet 133 = .ok (.aload_n 0, 1) := by decide +kernel
theorem dX10_meet_134 : decode cX10_meet 134 = .ok (.sipush 222, 3) := by decide +kernel
theorem dX10_meet_137 : decode cX10_meet 137 = .ok (.sipush 225, 3) := by decide +kernel
theorem dX10_meet_140 : decode cX10_meet 140 = .ok (.sipush 222, 3) := by decide +kernel
theorem dX10_meet_143 : decode cX10_meet 143 = .ok (.invokevirtual 106, 3) := by decide +kernel
theorem dX10_meet_146 : decode cX10_meet 146 = .ok (.aload_n 0, 1) := by decide +kernel
theorem dX10_meet_147 : decode cX10_meet 147 = .ok (.sipush 226, 3) := by decide +kernel
theorem dX10_meet_150 : decode cX10_meet 150 = .ok (.sipush 223, 3) := by decide +kernel
theorem dX10_meet_153 : decode cX10_meet 153 = .ok (.invokevirtual 82, 3) := by decide +kernel
theorem dX10_meet_156 : decode cX10_meet 156 = .ok (.aload_n 0, 1) := by decide +kernel
theorem dX10_meet_157 : decode cX10_meet 157 = .ok (.dup, 1) := by decide +kernel
theorem dX10_meet_158 : decode cX10_meet 158 = .ok (.getfield 219, 3) := by decide +kernel
theorem dX10_meet_161 : decode cX10_meet 161 = .ok (.iconst 1, 1) := by decide +kernel
theorem dX10_meet_162 : decode cX10_meet 162 = .ok (.iadd, 1) := by decide +kernel
theorem dX10_meet_163 : decode cX10_meet 163 = .ok (.putfield 219, 3) := by decide +kernel
theorem dX10_meet_166 : decode cX10_meet 166 = .ok (.aload_n 0, 1) := by decide +kernel
theorem dX10_meet_167 : decode cX10_meet 167 = .ok (.getfield 219, 3) := by decide +kernel
theorem dX10_meet_170 : decode cX10_meet 170 = .ok (.ireturn, 1) := by decide +kernel
theorem dX10_joined_0 : decode cX10_joined 0 = .ok (.aload_n 0, 1) := by decide +kernel
theorem dX10_joined_1 : decode cX10_joined 1 = .ok (.iconst 0, 1) := by decide +kernel
theorem dX10_joined_2 : decode cX10_joined 2 = .ok (.putfield 52, 3) := by decide +kernel
theorem dX10_joined_5 : decode cX10_joined 5 = .ok (.iload_n 1, 1) := by decide +kernel
theorem dX10_joined_6 : decode cX10_joined 6 = .ok (.iconst 0, 1) := by decide +kernel
theorem dX10_joined_7 : decode cX10_joined 7 = .ok (.iconst 1, 1) := by decide +kernel
theorem dX10_joined_8 : decode cX10_joined 8 = .ok (.invokestatic 119, 3) := by decide +kernel
theorem dX10_joined_11 : decode cX10_joined 11 = .ok (.ifCond .ne 5, 3) := by decide +kernel
theorem dX10_joined_14 : decode cX10_joined 14 = .ok (.iconst (-1), 1) := by decide +kernel
theorem dX10_joined_15 : decode cX10_joined 15 = .ok (.ireturn, 1) := by decide +kernel
theorem dX10_joined_16 : decode cX10_joined 16 = .ok (.aload_n 0, 1) := by decide +kernel
theorem dX10_joined_17 : decode cX10_joined 17 = .ok (.getfield 116, 3) := by decide +kernel
theorem dX10_joined_20 : decode cX10_joined 20 = .ok (.bipush 40, 2) := by decide +kernel
theorem dX10_joined_22 : decode cX10_joined 22 = .ok (.if_icmp .ne 6, 3) := by decide +kernel
theorem dX10_joined_25 : decode cX10_joined 25 = .ok (.bipush (-4), 2) := by decide +kernel
theorem dX10_joined_27 : decode cX10_joined 27 = .ok (.ireturn, 1) := by decide +kernel
theorem dX10_joined_28 : decode cX10_joined 28 = .ok (.aload_n 0, 1) := by decide +kernel
theorem dX10_joined_29 : decode cX10_joined 29 = .ok (.bipush 105, 2) := by decide +kernel
theorem dX10_joined_31 : decode cX10_joined 31 = .ok (.invokevirtual 48, 3) := by decide +kernel
theorem dX10_joined_34 : decode cX10_joined 34 = .ok (.aload_n 0, 1) := by decide +kernel
theorem dX10_joined_35 : decode cX10_joined 35 = .ok (.sipush 222, 3) := by decide +kernel
theorem dX10_joined_38 : decode cX10_joined 38 = .ok (.iload_n 1, 1) := by decide +kernel
theorem dX10_joined_39 : decode cX10_joined 39 = .ok (.iadd, 1) := by decide +kernel
theorem dX10_joined_40 : decode cX10_joined 40 = .ok (.sipush 210, 3) := by decide +kernel
theorem dX10_joined_43 : decode cX10_joined 43 = .ok (.invokevirtual 82, 3) := by decide +kernel
theorem dX10_joined_46 : decode cX10_joined 46 = .ok (.aload_n 0, 1) := by decide +kernel
theorem dX10_joined_47 : decode cX10_joined 47 = .ok (.bipush 105, 2) := by decide +kernel
theorem dX10_joined_49 : decode cX10_joined 49 = .ok (.invokevirtual 150, 3) := by decide +kernel
theorem dX10_joined_52 : decode cX10_joined 52 = .ok (.ireturn, 1) := by decide +kernel
theorem dX10_isSmall_0 : decode cX10_isSmall 0 = .ok (.aload_n 0, 1) := by decide +kernel
theorem dX10_isSmall_1 : decode cX10_isSmall 1 = .ok (.iload_n 1, 1) := by decide +kernel
theorem dX10_isSmall_2 : decode cX10_isSmall 2 = .ok (.iload_n 1, 1) := by decide +kernel
theorem dX10_isSmall_3 : decode cX10_isSmall 3 = .ok (.sipush 224, 3) := by decide +kernel
theorem dX10_isSmall_6 : decode cX10_isSmall 6 = .ok (.invokevirtual 102, 3) := by decide +kernel
theorem dX10_isSmall_9 : decode cX10_isSmall 9 = .ok (.aload_n 0, 1) := by decide +kernel
theorem dX10_isSmall_10 : decode cX10_isSmall 10 = .ok (.sipush 224, 3) := by decide +kernel
theorem dX10_isSmall_13 : decode cX10_isSmall 13 = .ok (.sipush 224, 3) := by decide +kernel
theorem dX10_isSmall_16 : decode cX10_isSmall 16 = .ok (.sipush 224, 3) := by decide +kernel
theorem dX10_isSmall_19 : decode cX10_isSmall 19 = .ok (.invokevirtual 106, 3) := by decide +kernel
theorem dX10_isSmall_22 : decode cX10_isSmall 22 = .ok (.aload_n 0, 1) := by decide +kernel
theorem dX10_isSmall_23 : decode cX10_isSmall 23 = .ok (.sipush 224, 3) := by decide +kernel
theorem dX10_isSmall_26 : decode cX10_isSmall 26 = .ok (.sipush 223, 3) := by decide +kernel
theorem dX10_isSmall_29 : decode cX10_isSmall 29 = .ok (.invokevirtual 76, 3) := by decide +kernel
theorem dX10_isSmall_32 : decode cX10_isSmall 32 = .ok (.ifCond .ge 7, 3) := by decide +kernel
theorem dX10_isSmall_35 : decode cX10_isSmall 35 = .ok (.iconst 1, 1) := by decide +kernel
theorem dX10_isSmall_36 : decode cX10_isSmall 36 = .ok (.goto 4, 3) := by decide +kernel
theorem dX10_isSmall_39 : decode cX10_isSmall 39 = .ok (.iconst 0, 1) := by decide +kernel
theorem dX10_isSmall_40 : decode cX10_isSmall 40 = .ok (.ireturn, 1) := by decide +kernel
theorem dX10_recover_0 : decode cX10_recover 0 = .ok (.aload_n 0, 1) := by decide +kernel
theorem dX10_recover_1 : decode cX10_recover 1 = .ok (.iconst 0, 1) := by decide +kernel
theorem dX10_recover_2 : decode cX10_recover 2 = .ok (.putfield 52, 3) := by decide +kernel
theorem dX10_recover_5 : decode cX10_recover 5 = .ok (.aload_n 0, 1) := by decide +kernel
theorem dX10_recover_6 : decode cX10_recover 6 = .ok (.getfield 116, 3) := by decide +kernel
theorem dX10_recover_9 : decode cX10_recover 9 = .ok (.bipush 40, 2) := by decide +kernel
theorem dX10_recover_11 : decode cX10_recover 11 = .ok (.if_icmp .ne 6, 3) := by decide +kernel
theorem dX10_recover_14 : decode cX10_recover 14 = .ok (.bipush (-4), 2) := by decide +kernel
theorem dX10_recover_16 : decode cX10_recover 16 = .ok (.ireturn, 1) := by decide +kernel
theorem dX10_recover_17 : decode cX10_recover 17 = .ok (.aload_n 0, 1) := by decide +kernel
theorem dX10_recover_18 : decode cX10_recover 18 = .ok (.sipush 223, 3) := by decide +kernel
theorem dX10_recover_21 : decode cX10_recover 21 = .ok (.sipush 231, 3) := by decide +kernel
theorem dX10_recover_24 : decode cX10_recover 24 = .ok (.invokevirtual 82, 3) := by decide +kernel
theorem dX10_recover_27 : decode cX10_recover 27 = .ok (.aload_n 0, 1) := by decide +kernel
theorem dX10_recover_28 : decode cX10_recover 28 = .ok (.sipush 222, 3) := by decide +kernel
theorem dX10_recover_31 : decode cX10_recover 31 = .ok (.sipush 232, 3) := by decide +kernel
theorem dX10_recover_34 : decode cX10_recover 34 = .ok (.invokevirtual 82, 3) := by decide +kernel
theorem dX10_recover_37 : decode cX10_recover 37 = .ok (.aload_n 0, 1) := by decide +kernel
theorem dX10_recover_38 : decode cX10_recover 38 = .ok (.sipush 233, 3) := by decide +kernel
theorem dX10_recover_41 : decode cX10_recover 41 = .ok (.invokevirtual 55, 3) := by decide +kernel
theorem dX10_recover_44 : decode cX10_recover 44 = .ok (.aload_n 0, 1) := by decide +kernel
theorem dX10_recover_45 : decode cX10_recover 45 = .ok (.sipush 234, 3) := by decide +kernel
theorem dX10_recover_48 : decode cX10_recover 48 = .ok (.lconst 1, 1) := by decide +kernel
theorem dX10_recover_49 : decode cX10_recover 49 = .ok (.invokevirtual 112, 3) := by decide +kernel
theorem dX10_recover_52 : decode cX10_recover 52 = .ok (.iconst 0, 1) := by decide +kernel
theorem dX10_recover_53 : decode cX10_recover 53 = .ok (.istore_n 1, 1) := by decide +kernel
theorem dX10_recover_54 : decode cX10_recover 54 = .ok (.aload_n 0, 1) := by decide +kernel
theorem dX10_recover_55 : decode cX10_recover 55 = .ok (.sipush 232, 3) := by decide +kernel
theorem dX10_recover_58 : decode cX10_recover 58 = .ok (.invokevirtual 222, 3) := by decide +kernel
theorem dX10_recover_61 : decode cX10_recover 61 = .ok (.ifCond .ne 98, 3) := by decide +kernel
theorem dX10_recover_64 : decode cX10_recover 64 = .ok (.aload_n 0, 1) := by decide +kernel
theorem dX10_recover_65 : decode cX10_recover 65 = .ok (.sipush 231, 3) := by decide +kernel
theorem dX10_recover_68 : decode cX10_recover 68 = .ok (.sipush 232, 3) := by decide +kernel
theorem dX10_recover_71 : decode cX10_recover 71 = .ok (.sipush 229, 3) := by decide +kernel
theorem dX10_recover_74 : decode cX10_recover 74 = .ok (.sipush 230, 3) := by decide +kernel
theorem dX10_recover_77 : decode cX10_recover 77 = .ok (.invokevirtual 98, 3) := by decide +kernel
theorem dX10_recover_80 : decode cX10_recover 80 = .ok (.aload_n 0, 1) := by decide +kernel
theorem dX10_recover_81 : decode cX10_recover 81 = .ok (.sipush 232, 3) := by decide +kernel
theorem dX10_recover_84 : decode cX10_recover 84 = .ok (.sipush 231, 3) := by decide +kernel
theorem dX10_recover_87 : decode cX10_recover 87 = .ok (.invokevirtual 82, 3) := by decide +kernel
theorem dX10_recover_90 : decode cX10_recover 90 = .ok (.aload_n 0, 1) := by decide +kernel
theorem dX10_recover_91 : decode cX10_recover 91 = .ok (.sipush 230, 3) := by decide +kernel
theorem dX10_recover_94 : decode cX10_recover 94 = .ok (.sipush 232, 3) := by decide +kernel
theorem dX10_recover_97 : decode cX10_recover 97 = .ok (.invokevirtual 82, 3) := by decide +kernel
theorem dX10_recover_100 : decode cX10_recover 100 = .ok (.aload_n 0, 1) := by decide +kernel
theorem dX10_recover_101 : decode cX10_recover 101 = .ok (.sipush 229, 3) := by decide +kernel
theorem dX10_recover_104 : decode cX10_recover 104 = .ok (.sipush 234, 3) := by decide +kernel
theorem dX10_recover_107 : decode cX10_recover 107 = .ok (.sipush 236, 3) := by decide +kernel
theorem dX10_recover_110 : decode cX10_recover 110 = .ok (.invokevirtual 102, 3) := by decide +kernel
theorem dX10_recover_113 : decode cX10_recover 113 = .ok (.aload_n 0, 1) := by decide +kernel
theorem dX10_recover_114 : decode cX10_recover 114 = .ok (.sipush 236, 3) := by decide +kernel
theorem dX10_recover_117 : decode cX10_recover 117 = .ok (.sipush 233, 3) := by decide +kernel
theorem dX10_recover_120 : decode cX10_recover 120 = .ok (.sipush 236, 3) := by decide +kernel
theorem dX10_recover_123 : decode cX10_recover 123 = .ok (.invokevirtual 106, 3) := by decide +kernel
theorem dX10_recover_126 : decode cX10_recover 126 = .ok (.aload_n 0, 1) := by decide +kernel
theorem dX10_recover_127 : decode cX10_recover 127 = .ok (.sipush 234, 3) := by decide +kernel
theorem dX10_recover_130 : decode cX10_recover 130 = .ok (.sipush 233, 3) := by decide +kernel
theorem dX10_recover_133 : decode cX10_recover 133 = .ok (.invokevirtual 82, 3) := by decide +kernel
theorem dX10_recover_136 : decode cX10_recover 136 = .ok (.aload_n 0, 1) := by decide +kernel
theorem dX10_recover_137 : decode cX10_recover 137 = .ok (.sipush 236, 3) := by decide +kernel
theorem dX10_recover_140 : decode cX10_recover 140 = .ok (.sipush 234, 3) := by decide +kernel
theorem dX10_recover_143 : decode cX10_recover 143 = .ok (.invokevirtual 82, 3) := by decide +kernel
theorem dX10_recover_146 : decode cX10_recover 146 = .ok (.iload_n 1, 1) := by decide +kernel
theorem dX10_recover_147 : decode cX10_recover 147 = .ok (.ifCond .ne 7, 3) := by decide +kernel
theorem dX10_recover_150 : decode cX10_recover 150 = .ok (.iconst 1, 1) := by decide +kernel
theorem dX10_recover_151 : decode cX10_recover 151 = .ok (.goto 4, 3) := by decide +kernel
theorem dX10_recover_154 : decode cX10_recover 154 = .ok (.iconst 0, 1) := by decide +kernel
theorem dX10_recover_155 : decode cX10_recover 155 = .ok (.istore_n 1, 1) := by decide +kernel
theorem dX10_recover_156 : decode cX10_recover 156 = .ok (.goto (-102), 3) := by decide +kernel
theorem dX10_recover_159 : decode cX10_recover 159 = .ok (.aload_n 0, 1) := by decide +kernel
theorem dX10_recover_160 : decode cX10_recover 160 = .ok (.sipush 234, 3) := by decide +kernel
theorem dX10_recover_163 : decode cX10_recover 163 = .ok (.invokevirtual 222, 3) := by decide +kernel
theorem dX10_recover_166 : decode cX10_recover 166 = .ok (.ifCond .ne 6, 3) := by decide +kernel
theorem dX10_recover_169 : decode cX10_recover 169 = .ok (.bipush (-6), 2) := by decide +kernel
theorem dX10_recover_171 : decode cX10_recover 171 = .ok (.ireturn, 1) := by decide +kernel
theorem dX10_recover_172 : decode cX10_recover 172 = .ok (.aload_n 0, 1) := by decide +kernel
theorem dX10_recover_173 : decode cX10_recover 173 = .ok (.sipush 232, 3) := by decide +kernel
theorem dX10_recover_176 : decode cX10_recover 176 = .ok (.invokevirtual 60, 3) := by decide +kernel
theorem dX10_recover_179 : decode cX10_recover 179 = .ok (.ifCond .le 16, 3) := by decide +kernel
theorem dX10_recover_182 : decode cX10_recover 182 = .ok (.aload_n 0, 1) := by decide +kernel
theorem dX10_recover_183 : decode cX10_recover 183 = .ok (.sipush 232, 3) := by decide +kernel
theorem dX10_recover_186 : decode cX10_recover 186 = .ok (.sipush 234, 3) := by decide +kernel
theorem dX10_recover_189 : decode cX10_recover 189 = .ok (.invokevirtual 95, 3) := by decide +kernel
theorem dX10_recover_192 : decode cX10_recover 192 = .ok (.goto 13, 3) := by decide +kernel
theorem dX10_recover_195 : decode cX10_recover 195 = .ok (.aload_n 0, 1) := by decide +kernel
theorem dX10_recover_196 : decode cX10_recover 196 = .ok (.sipush 234, 3) := by decide +kernel
theorem dX10_recover_199 : decode cX10_recover 199 = .ok (.sipush 235, 3) := by decide +kernel
theorem dX10_recover_202 : decode cX10_recover 202 = .ok (.invokevirtual 82, 3) := by decide +kernel
theorem dX10_recover_205 : decode cX10_recover 205 = .ok (.aload_n 0, 1) := by decide +kernel
theorem dX10_recover_206 : decode cX10_recover 206 = .ok (.sipush 235, 3) := by decide +kernel
theorem dX10_recover_209 : decode cX10_recover 209 = .ok (.invokevirtual 88, 3) := by decide +kernel
theorem dX10_recover_212 : decode cX10_recover 212 = .ok (.ifCond .ne 6, 3) := by decide +kernel
theorem dX10_recover_215 : decode cX10_recover 215 = .ok (.bipush (-6), 2) := by decide +kernel
theorem dX10_recover_217 : decode cX10_recover 217 = .ok (.ireturn, 1) := by decide +kernel
theorem dX10_recover_218 : decode cX10_recover 218 = .ok (.aload_n 0, 1) := by decide +kernel
theorem dX10_recover_219 : decode cX10_recover 219 = .ok (.sipush 232, 3) := by decide +kernel
theorem dX10_recover_222 : decode cX10_recover 222 = .ok (.sipush 210, 3) := by decide +kernel
theorem dX10_recover_225 : decode cX10_recover 225 = .ok (.invokevirtual 82, 3) := by decide +kernel
theorem dX10_recover_228 : decode cX10_recover 228 = .ok (.aload_n 0, 1) := by decide +kernel
theorem dX10_recover_229 : decode cX10_recover 229 = .ok (.sipush 234, 3) := by decide +kernel
theorem dX10_recover_232 : decode cX10_recover 232 = .ok (.sipush 211, 3) := by decide +kernel
theorem dX10_recover_235 : decode cX10_recover 235 = .ok (.invokevirtual 82, 3) := by decide +kernel
theorem dX10_recover_238 : decode cX10_recover 238 = .ok (.aload_n 0, 1) := by decide +kernel
theorem dX10_recover_239 : decode cX10_recover 239 = .ok (.getfield 13, 3) := by decide +kernel
theorem dX10_recover_242 : decode cX10_recover 242 = .ok (.bipush 105, 2) := by decide +kernel
theorem dX10_recover_244 : decode cX10_recover 244 = .ok (.iload_n 1, 1) := by decide +kernel
theorem dX10_recover_245 : decode cX10_recover 245 = .ok (.ifCond .eq 17, 3) := by decide +kernel
theorem dX10_recover_248 : decode cX10_recover 248 = .ok (.aload_n 0, 1) := by decide +kernel
theorem dX10_recover_249 : decode cX10_recover 249 = .ok (.sipush 232, 3) := by decide +kernel
theorem dX10_recover_252 : decode cX10_recover 252 = .ok (.invokevirtual 60, 3) := by decide +kernel
theorem dX10_recover_255 : decode cX10_recover 255 = .ok (.ifCond .le 7, 3) := by decide +kernel
theorem dX10_recover_258 : decode cX10_recover 258 = .ok (.iconst 1, 1) := by decide +kernel
theorem dX10_recover_259 : decode cX10_recover 259 = .ok (.goto 4, 3) := by decide +kernel
theorem dX10_recover_262 : decode cX10_recover 262 = .ok (.iconst 0, 1) := by decide +kernel
theorem dX10_recover_263 : decode cX10_recover 263 = .ok (.bastore, 1) := by decide +kernel
theorem dX10_recover_264 : decode cX10_recover 264 = .ok (.aload_n 0, 1) := by decide +kernel
theorem dX10_recover_265 : decode cX10_recover 265 = .ok (.bipush 105, 2) := by decide +kernel
theorem dX10_recover_267 : decode cX10_recover 267 = .ok (.invokevirtual 150, 3) := by decide +kernel
theorem dX10_recover_270 : decode cX10_recover 270 = .ok (.ireturn, 1) := by decide +kernel
theorem dX10_part_0 : decode cX10_part 0 = .ok (.aload_n 0, 1) := by decide +kernel
theorem dX10_part_1 : decode cX10_part 1 = .ok (.iconst 0, 1) := by decide +kernel
theorem dX10_part_2 : decode cX10_part 2 = .ok (.putfield 52, 3) := by decide +kernel
theorem dX10_part_5 : decode cX10_part 5 = .ok (.aload_n 0, 1) := by decide +kernel
theorem dX10_part_6 : decode cX10_part 6 = .ok (.getfield 219, 3) := by decide +kernel
theorem dX10_part_9 : decode cX10_part 9 = .ok (.istore_n 1, 1) := by decide +kernel
theorem dX10_part_10 : decode cX10_part 10 = .ok (.aload_n 0, 1) := by decide +kernel
theorem dX10_part_11 : decode cX10_part 11 = .ok (.iconst 0, 1) := by decide +kernel
theorem dX10_part_12 : decode cX10_part 12 = .ok (.putfield 219, 3) := by decide +kernel
theorem dX10_part_15 : decode cX10_part 15 = .ok (.aload_n 0, 1) := by decide +kernel
theorem dX10_part_16 : decode cX10_part 16 = .ok (.bipush 111, 2) := by decide +kernel
theorem dX10_part_18 : decode cX10_part 18 = .ok (.invokevirtual 48, 3) := by decide +kernel
theorem dX10_part_21 : decode cX10_part 21 = .ok (.iload_n 1, 1) := by decide +kernel
theorem dX10_part_22 : decode cX10_part 22 = .ok (.ireturn, 1) := by decide +kernel
theorem dX10_tenfold_0 : decode cX10_tenfold 0 = .ok (.iconst 0, 1) := by decide +kernel
theorem dX10_tenfold_1 : decode cX10_tenfold 1 = .ok (.istore_n 2, 1) := by decide +kernel
theorem dX10_tenfold_2 : decode cX10_tenfold 2 = .ok (.iconst 0, 1) := by decide +kernel
theorem dX10_tenfold_3 : decode cX10_tenfold 3 = .ok (.istore_n 3, 1) := by decide +kernel
theorem dX10_tenfold_4 : decode cX10_tenfold 4 = .ok (.iload_n 3, 1) := by decide +kernel
theorem dX10_tenfold_5 : decode cX10_tenfold 5 = .ok (.bipush 16, 2) := by decide +kernel
theorem dX10_tenfold_7 : decode cX10_tenfold 7 = .ok (.if_icmp .ge 55, 3) := by decide +kernel
theorem dX10_tenfold_10 : decode cX10_tenfold 10 = .ok (.ldc2_w 225, 3) := by decide +kernel
theorem dX10_tenfold_13 : decode cX10_tenfold 13 = .ok (.aload_n 0, 1) := by decide +kernel
theorem dX10_tenfold_14 : decode cX10_tenfold 14 = .ok (.getfield 7, 3) := by decide +kernel
theorem dX10_tenfold_17 : decode cX10_tenfold 17 = .ok (.bipush 16, 2) := by decide +kernel
theorem dX10_tenfold_19 : decode cX10_tenfold 19 = .ok (.iload_n 1, 1) := by decide +kernel
theorem dX10_tenfold_20 : decode cX10_tenfold 20 = .ok (.imul, 1) := by decide +kernel
theorem dX10_tenfold_21 : decode cX10_tenfold 21 = .ok (.iload_n 3, 1) := by decide +kernel
theorem dX10_tenfold_22 : decode cX10_tenfold 22 = .ok (.iadd, 1) := by decide +kernel
theorem dX10_tenfold_23 : decode cX10_tenfold 23 = .ok (.iaload, 1) := by decide +kernel
theorem dX10_tenfold_24 : decode cX10_tenfold 24 = .ok (.i2l, 1) := by decide +kernel
theorem dX10_tenfold_25 : decode cX10_tenfold 25 = .ok (.lmul, 1) := by decide +kernel
theorem dX10_tenfold_26 : decode cX10_tenfold 26 = .ok (.iload_n 2, 1) := by decide +kernel
theorem dX10_tenfold_27 : decode cX10_tenfold 27 = .ok (.i2l, 1) := by decide +kernel
theorem dX10_tenfold_28 : decode cX10_tenfold 28 = .ok (.ladd, 1) := by decide +kernel
theorem dX10_tenfold_29 : decode cX10_tenfold 29 = .ok (.lstore 4, 2) := by decide +kernel
theorem dX10_tenfold_31 : decode cX10_tenfold 31 = .ok (.aload_n 0, 1) := by decide +kernel
theorem dX10_tenfold_32 : decode cX10_tenfold 32 = .ok (.getfield 7, 3) := by decide +kernel
theorem dX10_tenfold_35 : decode cX10_tenfold 35 = .ok (.bipush 16, 2) := by decide +kernel
theorem dX10_tenfold_37 : decode cX10_tenfold 37 = .ok (.iload_n 1, 1) := by decide +kernel
theorem dX10_tenfold_38 : decode cX10_tenfold 38 = .ok (.imul, 1) := by decide +kernel
theorem dX10_tenfold_39 : decode cX10_tenfold 39 = .ok (.iload_n 3, 1) := by decide +kernel
theorem dX10_tenfold_40 : decode cX10_tenfold 40 = .ok (.iadd, 1) := by decide +kernel
theorem dX10_tenfold_41 : decode cX10_tenfold 41 = .ok (.lload 4, 2) := by decide +kernel
theorem dX10_tenfold_43 : decode cX10_tenfold 43 = .ok (.ldc2_w 58, 3) := by decide +kernel
theorem dX10_tenfold_46 : decode cX10_tenfold 46 = .ok (.land, 1) := by decide +kernel
theorem dX10_tenfold_47 : decode cX10_tenfold 47 = .ok (.l2i, 1) := by decide +kernel
theorem dX10_tenfold_48 : decode cX10_tenfold 48 = .ok (.iastore, 1) := by decide +kernel
theorem dX10_tenfold_49 : decode cX10_tenfold 49 = .ok (.lload 4, 2) := by decide +kernel
theorem dX10_tenfold_51 : decode cX10_tenfold 51 = .ok (.bipush 28, 2) := by decide +kernel
theorem dX10_tenfold_53 : decode cX10_tenfold 53 = .ok (.lshr, 1) := by decide +kernel
theorem dX10_tenfold_54 : decode cX10_tenfold 54 = .ok (.l2i, 1) := by decide +kernel
theorem dX10_tenfold_55 : decode cX10_tenfold 55 = .ok (.istore_n 2, 1) := by decide +kernel
theorem dX10_tenfold_56 : decode cX10_tenfold 56 = .ok (.iinc 3 1, 3) := by decide +kernel
theorem dX10_tenfold_59 : decode cX10_tenfold 59 = .ok (.goto (-55), 3) := by decide +kernel
theorem dX10_tenfold_62 : decode cX10_tenfold 62 = .ok (.return_, 1) := by decide +kernel
theorem dX10_tenth_0 : decode cX10_tenth 0 = .ok (.lconst 0, 1) := by decide +kernel
theorem dX10_tenth_1 : decode cX10_tenth 1 = .ok (.lstore_n 2, 1) := by decide +kernel
theorem dX10_tenth_2 : decode cX10_tenth 2 = .ok (.bipush 15, 2) := by decide +kernel
theorem dX10_tenth_4 : decode cX10_tenth 4 = .ok (.istore 4, 2) := by decide +kernel
theorem dX10_tenth_6 : decode cX10_tenth 6 = .ok (.iload 4, 2) := by decide +kernel
theorem dX10_tenth_8 : decode cX10_tenth 8 = .ok (.ifCond .lt 55, 3) := by decide +kernel
theorem dX10_tenth_11 : decode cX10_tenth 11 = .ok (.lload_n 2, 1) := by decide +kernel
theorem dX10_tenth_12 : decode cX10_tenth 12 = .ok (.bipush 28, 2) := by decide +kernel
theorem dX10_tenth_14 : decode cX10_tenth 14 = .ok (.lshl, 1) := by decide +kernel
theorem dX10_tenth_15 : decode cX10_tenth 15 = .ok (.aload_n 0, 1) := by decide +kernel
theorem dX10_tenth_16 : decode cX10_tenth 16 = .ok (.getfield 7, 3) := by decide +kernel
theorem dX10_tenth_19 : decode cX10_tenth 19 = .ok (.bipush 16, 2) := by decide +kernel
theorem dX10_tenth_21 : decode cX10_tenth 21 = .ok (.iload_n 1, 1) := by decide +kernel
theorem dX10_tenth_22 : decode cX10_tenth 22 = .ok (.imul, 1) := by decide +kernel
theorem dX10_tenth_23 : decode cX10_tenth 23 = .ok (.iload 4, 2) := by decide +kernel
theorem dX10_tenth_25 : decode cX10_tenth 25 = .ok (.iadd, 1) := by decide +kernel
theorem dX10_tenth_26 : decode cX10_tenth 26 = .ok (.iaload, 1) := by decide +kernel
theorem dX10_tenth_27 : decode cX10_tenth 27 = .ok (.i2l, 1) := by decide +kernel
theorem dX10_tenth_28 : decode cX10_tenth 28 = .ok (.ladd, 1) := by decide +kernel
theorem dX10_tenth_29 : decode cX10_tenth 29 = .ok (.lstore 5, 2) := by decide +kernel
theorem dX10_tenth_31 : decode cX10_tenth 31 = .ok (.aload_n 0, 1) := by decide +kernel
theorem dX10_tenth_32 : decode cX10_tenth 32 = .ok (.getfield 7, 3) := by decide +kernel
theorem dX10_tenth_35 : decode cX10_tenth 35 = .ok (.bipush 16, 2) := by decide +kernel
theorem dX10_tenth_37 : decode cX10_tenth 37 = .ok (.iload_n 1, 1) := by decide +kernel
theorem dX10_tenth_38 : decode cX10_tenth 38 = .ok (.imul, 1) := by decide +kernel
theorem dX10_tenth_39 : decode cX10_tenth 39 = .ok (.iload 4, 2) := by decide +kernel
theorem dX10_tenth_41 : decode cX10_tenth 41 = .ok (.iadd, 1) := by decide +kernel
theorem dX10_tenth_42 : decode cX10_tenth 42 = .ok (.lload 5, 2) := by decide +kernel
theorem dX10_tenth_44 : decode cX10_tenth 44 = .ok (.ldc2_w 225, 3) := by decide +kernel
theorem dX10_tenth_47 : decode cX10_tenth 47 = .ok (.ldiv, 1) := by decide +kernel
theorem dX10_tenth_48 : decode cX10_tenth 48 = .ok (.l2i, 1) := by decide +kernel
theorem dX10_tenth_49 : decode cX10_tenth 49 = .ok (.iastore, 1) := by decide +kernel
theorem dX10_tenth_50 : decode cX10_tenth 50 = .ok (.lload 5, 2) := by decide +kernel
theorem dX10_tenth_52 : decode cX10_tenth 52 = .ok (.ldc2_w 225, 3) := by decide +kernel
theorem dX10_tenth_55 : decode cX10_tenth 55 = .ok (.lrem, 1) := by decide +kernel
theorem dX10_tenth_56 : decode cX10_tenth 56 = .ok (.lstore_n 2, 1) := by decide +kernel
theorem dX10_tenth_57 : decode cX10_tenth 57 = .ok (.iinc 4 (-1), 3) := by decide +kernel
theorem dX10_tenth_60 : decode cX10_tenth 60 = .ok (.goto (-54), 3) := by decide +kernel
theorem dX10_tenth_63 : decode cX10_tenth 63 = .ok (.lload_n 2, 1) := by decide +kernel
theorem dX10_tenth_64 : decode cX10_tenth 64 = .ok (.l2i, 1) := by decide +kernel
theorem dX10_tenth_65 : decode cX10_tenth 65 = .ok (.ireturn, 1) := by decide +kernel
theorem dX10_say_0 : decode cX10_say 0 = .ok (.aload_n 0, 1) := by decide +kernel
theorem dX10_say_1 : decode cX10_say 1 = .ok (.getfield 38, 3) := by decide +kernel
theorem dX10_say_4 : decode cX10_say 4 = .ok (.aload_n 0, 1) := by decide +kernel
theorem dX10_say_5 : decode cX10_say 5 = .ok (.getfield 227, 3) := by decide +kernel
theorem dX10_say_8 : decode cX10_say 8 = .ok (.iload_n 1, 1) := by decide +kernel
theorem dX10_say_9 : decode cX10_say 9 = .ok (.iastore, 1) := by decide +kernel
theorem dX10_say_10 : decode cX10_say 10 = .ok (.aload_n 0, 1) := by decide +kernel
theorem dX10_say_11 : decode cX10_say 11 = .ok (.dup, 1) := by decide +kernel
theorem dX10_say_12 : decode cX10_say 12 = .ok (.getfield 227, 3) := by decide +kernel
theorem dX10_say_15 : decode cX10_say 15 = .ok (.iconst 1, 1) := by decide +kernel
theorem dX10_say_16 : decode cX10_say 16 = .ok (.iadd, 1) := by decide +kernel
theorem dX10_say_17 : decode cX10_say 17 = .ok (.putfield 227, 3) := by decide +kernel
theorem dX10_say_20 : decode cX10_say 20 = .ok (.return_, 1) := by decide +kernel
theorem dX10_decimals_0 : decode cX10_decimals 0 = .ok (.aload_n 0, 1) := by decide +kernel
theorem dX10_decimals_1 : decode cX10_decimals 1 = .ok (.iconst 0, 1) := by decide +kernel
theorem dX10_decimals_2 : decode cX10_decimals 2 = .ok (.putfield 52, 3) := by decide +kernel
theorem dX10_decimals_5 : decode cX10_decimals 5 = .ok (.aload_n 0, 1) := by decide +kernel
theorem dX10_decimals_6 : decode cX10_decimals 6 = .ok (.iload_n 1, 1) := by decide +kernel
theorem dX10_decimals_7 : decode cX10_decimals 7 = .ok (.invokevirtual 137, 3) := by decide +kernel
theorem dX10_decimals_10 : decode cX10_decimals 10 = .ok (.ifCond .eq 13, 3) := by decide +kernel
theorem dX10_decimals_13 : decode cX10_decimals 13 = .ok (.iload_n 2, 1) := by decide +kernel
theorem dX10_decimals_14 : decode cX10_decimals 14 = .ok (.iconst 0, 1) := by decide +kernel
theorem dX10_decimals_15 : decode cX10_decimals 15 = .ok (.bipush 30, 2) := by decide +kernel
theorem dX10_decimals_17 : decode cX10_decimals 17 = .ok (.invokestatic 119, 3) := by decide +kernel
theorem dX10_decimals_20 : decode cX10_decimals 20 = .ok (.ifCond .ne 5, 3) := by decide +kernel
theorem dX10_decimals_23 : decode cX10_decimals 23 = .ok (.iconst (-1), 1) := by decide +kernel
theorem dX10_decimals_24 : decode cX10_decimals 24 = .ok (.ireturn, 1) := by decide +kernel
theorem dX10_decimals_25 : decode cX10_decimals 25 = .ok (.aload_n 0, 1) := by decide +kernel
theorem dX10_decimals_26 : decode cX10_decimals 26 = .ok (.iconst 2, 1) := by decide +kernel
theorem dX10_decimals_27 : decode cX10_decimals 27 = .ok (.iload_n 1, 1) := by decide +kernel
theorem dX10_decimals_28 : decode cX10_decimals 28 = .ok (.imul, 1) := by decide +kernel
theorem dX10_decimals_29 : decode cX10_decimals 29 = .ok (.sipush 224, 3) := by decide +kernel
theorem dX10_decimals_32 : decode cX10_decimals 32 = .ok (.invokevirtual 82, 3) := by decide +kernel
theorem dX10_decimals_35 : decode cX10_decimals 35 = .ok (.iconst 0, 1) := by decide +kernel
theorem dX10_decimals_36 : decode cX10_decimals 36 = .ok (.istore 4, 2) := by decide +kernel
theorem dX10_decimals_38 : decode cX10_decimals 38 = .ok (.iload 4, 2) := by decide +kernel
theorem dX10_decimals_40 : decode cX10_decimals 40 = .ok (.iload_n 2, 1) := by decide +kernel
theorem dX10_decimals_41 : decode cX10_decimals 41 = .ok (.if_icmp .ge 16, 3) := by decide +kernel
theorem dX10_decimals_44 : decode cX10_decimals 44 = .ok (.aload_n 0, 1) := by decide +kernel
theorem dX10_decimals_45 : decode cX10_decimals 45 = .ok (.sipush 224, 3) := by decide +kernel
theorem dX10_decimals_48 : decode cX10_decimals 48 = .ok (.invokevirtual 230, 3) := by decide +kernel
theorem dX10_decimals_51 : decode cX10_decimals 51 = .ok (.iinc 4 1, 3) := by decide +kernel
theorem dX10_decimals_54 : decode cX10_decimals 54 = .ok (.goto (-16), 3) := by decide +kernel
theorem dX10_decimals_57 : decode cX10_decimals 57 = .ok (.aload_n 0, 1) := by decide +kernel
theorem dX10_decimals_58 : decode cX10_decimals 58 = .ok (.sipush 224, 3) := by decide +kernel
theorem dX10_decimals_61 : decode cX10_decimals 61 = .ok (.iconst 2, 1) := by decide +kernel
theorem dX10_decimals_62 : decode cX10_decimals 62 = .ok (.iload_n 1, 1) := by decide +kernel
theorem dX10_decimals_63 : decode cX10_decimals 63 = .ok (.imul, 1) := by decide +kernel
theorem dX10_decimals_64 : decode cX10_decimals 64 = .ok (.iconst 1, 1) := by decide +kernel
theorem dX10_decimals_65 : decode cX10_decimals 65 = .ok (.iadd, 1) := by decide +kernel
theorem dX10_decimals_66 : decode cX10_decimals 66 = .ok (.sipush 229, 3) := by decide +kernel
theorem dX10_decimals_69 : decode cX10_decimals 69 = .ok (.sipush 230, 3) := by decide +kernel
theorem dX10_decimals_72 : decode cX10_decimals 72 = .ok (.invokevirtual 98, 3) := by decide +kernel
theorem dX10_decimals_75 : decode cX10_decimals 75 = .ok (.aload_n 0, 1) := by decide +kernel
theorem dX10_decimals_76 : decode cX10_decimals 76 = .ok (.sipush 230, 3) := by decide +kernel
theorem dX10_decimals_79 : decode cX10_decimals 79 = .ok (.invokevirtual 60, 3) := by decide +kernel
theorem dX10_decimals_82 : decode cX10_decimals 82 = .ok (.ifCond .le 34, 3) := by decide +kernel
theorem dX10_decimals_85 : decode cX10_decimals 85 = .ok (.aload_n 0, 1) := by decide +kernel
theorem dX10_decimals_86 : decode cX10_decimals 86 = .ok (.getfield 13, 3) := by decide +kernel
theorem dX10_decimals_89 : decode cX10_decimals 89 = .ok (.iload_n 1, 1) := by decide +kernel
theorem dX10_decimals_90 : decode cX10_decimals 90 = .ok (.baload, 1) := by decide +kernel
theorem dX10_decimals_91 : decode cX10_decimals 91 = .ok (.iload_n 3, 1) := by decide +kernel
theorem dX10_decimals_92 : decode cX10_decimals 92 = .ok (.if_icmp .eq 24, 3) := by decide +kernel
theorem dX10_decimals_95 : decode cX10_decimals 95 = .ok (.aload_n 0, 1) := by decide +kernel
theorem dX10_decimals_96 : decode cX10_decimals 96 = .ok (.sipush 225, 3) := by decide +kernel
theorem dX10_decimals_99 : decode cX10_decimals 99 = .ok (.lconst 1, 1) := by decide +kernel
theorem dX10_decimals_100 : decode cX10_decimals 100 = .ok (.invokevirtual 112, 3) := by decide +kernel
theorem dX10_decimals_103 : decode cX10_decimals 103 = .ok (.aload_n 0, 1) := by decide +kernel
theorem dX10_decimals_104 : decode cX10_decimals 104 = .ok (.sipush 229, 3) := by decide +kernel
theorem dX10_decimals_107 : decode cX10_decimals 107 = .ok (.sipush 225, 3) := by decide +kernel
theorem dX10_decimals_110 : decode cX10_decimals 110 = .ok (.sipush 229, 3) := by decide +kernel
theorem dX10_decimals_113 : decode cX10_decimals 113 = .ok (.invokevirtual 106, 3) := by decide +kernel
theorem dX10_decimals_116 : decode cX10_decimals 116 = .ok (.aload_n 0, 1) := by decide +kernel
theorem dX10_decimals_117 : decode cX10_decimals 117 = .ok (.iconst 0, 1) := by decide +kernel
theorem dX10_decimals_118 : decode cX10_decimals 118 = .ok (.putfield 227, 3) := by decide +kernel
theorem dX10_decimals_121 : decode cX10_decimals 121 = .ok (.aload_n 0, 1) := by decide +kernel
theorem dX10_decimals_122 : decode cX10_decimals 122 = .ok (.getfield 13, 3) := by decide +kernel
theorem dX10_decimals_125 : decode cX10_decimals 125 = .ok (.iload_n 1, 1) := by decide +kernel
theorem dX10_decimals_126 : decode cX10_decimals 126 = .ok (.baload, 1) := by decide +kernel
theorem dX10_decimals_127 : decode cX10_decimals 127 = .ok (.ifCond .eq 19, 3) := by decide +kernel
theorem dX10_decimals_130 : decode cX10_decimals 130 = .ok (.aload_n 0, 1) := by decide +kernel
theorem dX10_decimals_131 : decode cX10_decimals 131 = .ok (.sipush 229, 3) := by decide +kernel
theorem dX10_decimals_134 : decode cX10_decimals 134 = .ok (.invokevirtual 60, 3) := by decide +kernel
theorem dX10_decimals_137 : decode cX10_decimals 137 = .ok (.ifCond .le 9, 3) := by decide +kernel
theorem dX10_decimals_140 : decode cX10_decimals 140 = .ok (.aload_n 0, 1) := by decide +kernel
theorem dX10_decimals_141 : decode cX10_decimals 141 = .ok (.bipush 45, 2) := by decide +kernel
theorem dX10_decimals_143 : decode cX10_decimals 143 = .ok (.invokevirtual 233, 3) := by decide +kernel
theorem dX10_decimals_146 : decode cX10_decimals 146 = .ok (.iconst 0, 1) := by decide +kernel
theorem dX10_decimals_147 : decode cX10_decimals 147 = .ok (.istore 4, 2) := by decide +kernel
theorem dX10_decimals_149 : decode cX10_decimals 149 = .ok (.aload_n 0, 1) := by decide +kernel
theorem dX10_decimals_150 : decode cX10_decimals 150 = .ok (.sipush 229, 3) := by decide +kernel
theorem dX10_decimals_153 : decode cX10_decimals 153 = .ok (.invokevirtual 60, 3) := by decide +kernel
theorem dX10_decimals_156 : decode cX10_decimals 156 = .ok (.ifCond .gt 9, 3) := by decide +kernel
theorem dX10_decimals_159 : decode cX10_decimals 159 = .ok (.iload 4, 2) := by decide +kernel
theorem dX10_decimals_161 : decode cX10_decimals 161 = .ok (.iload_n 2, 1) := by decide +kernel
theorem dX10_decimals_162 : decode cX10_decimals 162 = .ok (.if_icmp .gt 23, 3) := by decide +kernel
theorem dX10_decimals_165 : decode cX10_decimals 165 = .ok (.aload_n 0, 1) := by decide +kernel
theorem dX10_decimals_166 : decode cX10_decimals 166 = .ok (.getfield 41, 3) := by decide +kernel
theorem dX10_decimals_169 : decode cX10_decimals 169 = .ok (.iload 4, 2) := by decide +kernel
theorem dX10_decimals_171 : decode cX10_decimals 171 = .ok (.aload_n 0, 1) := by decide +kernel
theorem dX10_decimals_172 : decode cX10_decimals 172 = .ok (.sipush 229, 3) := by decide +kernel
theorem dX10_decimals_175 : decode cX10_decimals 175 = .ok (.invokevirtual 236, 3) := by decide +kernel
theorem dX10_decimals_178 : decode cX10_decimals 178 = .ok (.iastore, 1) := by decide +kernel
theorem dX10_decimals_179 : decode cX10_decimals 179 = .ok (.iinc 4 1, 3) := by decide +kernel
theorem dX10_decimals_182 : decode cX10_decimals 182 = .ok (.goto (-33), 3) := by decide +kernel
theorem dX10_decimals_185 : decode cX10_decimals 185 = .ok (.iload 4, 2) := by decide +kernel
theorem dX10_decimals_187 : decode cX10_decimals 187 = .ok (.iconst 1, 1) := by decide +kernel
theorem dX10_decimals_188 : decode cX10_decimals 188 = .ok (.isub, 1) := by decide +kernel
theorem dX10_decimals_189 : decode cX10_decimals 189 = .ok (.istore 5, 2) := by decide +kernel
theorem dX10_decimals_191 : decode cX10_decimals 191 = .ok (.iload 5, 2) := by decide +kernel
theorem dX10_decimals_193 : decode cX10_decimals 193 = .ok (.ifCond .lt 40, 3) := by decide +kernel
theorem dX10_decimals_196 : decode cX10_decimals 196 = .ok (.aload_n 0, 1) := by decide +kernel
theorem dX10_decimals_197 : decode cX10_decimals 197 = .ok (.bipush 48, 2) := by decide +kernel
theorem dX10_decimals_199 : decode cX10_decimals 199 = .ok (.aload_n 0, 1) := by decide +kernel
theorem dX10_decimals_200 : decode cX10_decimals 200 = .ok (.getfield 41, 3) := by decide +kernel
theorem dX10_decimals_203 : decode cX10_decimals 203 = .ok (.iload 5, 2) := by decide +kernel
theorem dX10_decimals_205 : decode cX10_decimals 205 = .ok (.iaload, 1) := by decide +kernel
theorem dX10_decimals_206 : decode cX10_decimals 206 = .ok (.iadd, 1) := by decide +kernel
theorem dX10_decimals_207 : decode cX10_decimals 207 = .ok (.invokevirtual 233, 3) := by decide +kernel
theorem dX10_decimals_210 : decode cX10_decimals 210 = .ok (.iload 5, 2) := by decide +kernel
theorem dX10_decimals_212 : decode cX10_decimals 212 = .ok (.iload_n 2, 1) := by decide +kernel
theorem dX10_decimals_213 : decode cX10_decimals 213 = .ok (.if_icmp .ne 14, 3) := by decide +kernel
theorem dX10_decimals_216 : decode cX10_decimals 216 = .ok (.iload 5, 2) := by decide +kernel
theorem dX10_decimals_218 : decode cX10_decimals 218 = .ok (.ifCond .le 9, 3) := by decide +kernel
theorem dX10_decimals_221 : decode cX10_decimals 221 = .ok (.aload_n 0, 1) := by decide +kernel
theorem dX10_decimals_222 : decode cX10_decimals 222 = .ok (.bipush 46, 2) := by decide +kernel
theorem dX10_decimals_224 : decode cX10_decimals 224 = .ok (.invokevirtual 233, 3) := by decide +kernel
theorem dX10_decimals_227 : decode cX10_decimals 227 = .ok (.iinc 5 (-1), 3) := by decide +kernel
theorem dX10_decimals_230 : decode cX10_decimals 230 = .ok (.goto (-39), 3) := by decide +kernel
theorem dX10_decimals_233 : decode cX10_decimals 233 = .ok (.aload_n 0, 1) := by decide +kernel
theorem dX10_decimals_234 : decode cX10_decimals 234 = .ok (.getfield 227, 3) := by decide +kernel
theorem dX10_decimals_237 : decode cX10_decimals 237 = .ok (.ireturn, 1) := by decide +kernel
theorem dX10_sign_0 : decode cX10_sign 0 = .ok (.aload_n 0, 1) := by decide +kernel
theorem dX10_sign_1 : decode cX10_sign 1 = .ok (.iconst 0, 1) := by decide +kernel
theorem dX10_sign_2 : decode cX10_sign 2 = .ok (.putfield 52, 3) := by decide +kernel
theorem dX10_sign_5 : decode cX10_sign 5 = .ok (.iload_n 1, 1) := by decide +kernel
theorem dX10_sign_6 : decode cX10_sign 6 = .ok (.iconst 0, 1) := by decide +kernel
theorem dX10_sign_7 : decode cX10_sign 7 = .ok (.aload_n 0, 1) := by decide +kernel
theorem dX10_sign_8 : decode cX10_sign 8 = .ok (.getfield 227, 3) := by decide +kernel
theorem dX10_sign_11 : decode cX10_sign 11 = .ok (.iconst 1, 1) := by decide +kernel
theorem dX10_sign_12 : decode cX10_sign 12 = .ok (.isub, 1) := by decide +kernel
theorem dX10_sign_13 : decode cX10_sign 13 = .ok (.invokestatic 119, 3) := by decide +kernel
theorem dX10_sign_16 : decode cX10_sign 16 = .ok (.ifCond .eq 12, 3) := by decide +kernel
theorem dX10_sign_19 : decode cX10_sign 19 = .ok (.aload_n 0, 1) := by decide +kernel
theorem dX10_sign_20 : decode cX10_sign 20 = .ok (.getfield 38, 3) := by decide +kernel
theorem dX10_sign_23 : decode cX10_sign 23 = .ok (.iload_n 1, 1) := by decide +kernel
theorem dX10_sign_24 : decode cX10_sign 24 = .ok (.iaload, 1) := by decide +kernel
theorem dX10_sign_25 : decode cX10_sign 25 = .ok (.goto 4, 3) := by decide +kernel
theorem dX10_sign_28 : decode cX10_sign 28 = .ok (.iconst (-1), 1) := by decide +kernel
theorem dX10_sign_29 : decode cX10_sign 29 = .ok (.ireturn, 1) := by decide +kernel
theorem dX10_count_0 : decode cX10_count 0 = .ok (.aload_n 0, 1) := by decide +kernel
theorem dX10_count_1 : decode cX10_count 1 = .ok (.iconst 0, 1) := by decide +kernel
theorem dX10_count_2 : decode cX10_count 2 = .ok (.putfield 52, 3) := by decide +kernel
theorem dX10_count_5 : decode cX10_count 5 = .ok (.iload_n 1, 1) := by decide +kernel
theorem dX10_count_6 : decode cX10_count 6 = .ok (.tableswitch 50 0 3 #[30, 35, 40, 45], 30) := by decide +kernel
theorem dX10_count_36 : decode cX10_count 36 = .ok (.aload_n 0, 1) := by decide +kernel
theorem dX10_count_37 : decode cX10_count 37 = .ok (.getfield 116, 3) := by decide +kernel
theorem dX10_count_40 : decode cX10_count 40 = .ok (.ireturn, 1) := by decide +kernel
theorem dX10_count_41 : decode cX10_count 41 = .ok (.aload_n 0, 1) := by decide +kernel
theorem dX10_count_42 : decode cX10_count 42 = .ok (.getfield 219, 3) := by decide +kernel
theorem dX10_count_45 : decode cX10_count 45 = .ok (.ireturn, 1) := by decide +kernel
theorem dX10_count_46 : decode cX10_count 46 = .ok (.aload_n 0, 1) := by decide +kernel
theorem dX10_count_47 : decode cX10_count 47 = .ok (.getfield 44, 3) := by decide +kernel
theorem dX10_count_50 : decode cX10_count 50 = .ok (.ireturn, 1) := by decide +kernel
theorem dX10_count_51 : decode cX10_count 51 = .ok (.aload_n 0, 1) := by decide +kernel
theorem dX10_count_52 : decode cX10_count 52 = .ok (.getfield 123, 3) := by decide +kernel
theorem dX10_count_55 : decode cX10_count 55 = .ok (.ireturn, 1) := by decide +kernel
theorem dX10_count_56 : decode cX10_count 56 = .ok (.iconst (-1), 1) := by decide +kernel
theorem dX10_count_57 : decode cX10_count 57 = .ok (.ireturn, 1) := by decide +kernel
theorem dX10_clear_0 : decode cX10_clear 0 = .ok (.aload_n 0, 1) := by decide +kernel
theorem dX10_clear_1 : decode cX10_clear 1 = .ok (.iconst 0, 1) := by decide +kernel
theorem dX10_clear_2 : decode cX10_clear 2 = .ok (.putfield 52, 3) := by decide +kernel
theorem dX10_clear_5 : decode cX10_clear 5 = .ok (.aload_n 0, 1) := by decide +kernel
theorem dX10_clear_6 : decode cX10_clear 6 = .ok (.getfield 116, 3) := by decide +kernel
theorem dX10_clear_9 : decode cX10_clear 9 = .ok (.istore_n 1, 1) := by decide +kernel
theorem dX10_clear_10 : decode cX10_clear 10 = .ok (.aload_n 0, 1) := by decide +kernel
theorem dX10_clear_11 : decode cX10_clear 11 = .ok (.iconst 0, 1) := by decide +kernel
theorem dX10_clear_12 : decode cX10_clear 12 = .ok (.putfield 116, 3) := by decide +kernel
theorem dX10_clear_15 : decode cX10_clear 15 = .ok (.bipush 40, 2) := by decide +kernel
theorem dX10_clear_17 : decode cX10_clear 17 = .ok (.istore_n 2, 1) := by decide +kernel
theorem dX10_clear_18 : decode cX10_clear 18 = .ok (.iload_n 2, 1) := by decide +kernel
theorem dX10_clear_19 : decode cX10_clear 19 = .ok (.bipush 70, 2) := by decide +kernel
theorem dX10_clear_21 : decode cX10_clear 21 = .ok (.if_icmp .ge 14, 3) := by decide +kernel
theorem dX10_clear_24 : decode cX10_clear 24 = .ok (.aload_n 0, 1) := by decide +kernel
theorem dX10_clear_25 : decode cX10_clear 25 = .ok (.iload_n 2, 1) := by decide +kernel
theorem dX10_clear_26 : decode cX10_clear 26 = .ok (.invokevirtual 48, 3) := by decide +kernel
theorem dX10_clear_29 : decode cX10_clear 29 = .ok (.iinc 2 1, 3) := by decide +kernel
theorem dX10_clear_32 : decode cX10_clear 32 = .ok (.goto (-14), 3) := by decide +kernel
theorem dX10_clear_35 : decode cX10_clear 35 = .ok (.aload_n 0, 1) := by decide +kernel
theorem dX10_clear_36 : decode cX10_clear 36 = .ok (.iconst 0, 1) := by decide +kernel
theorem dX10_clear_37 : decode cX10_clear 37 = .ok (.putfield 180, 3) := by decide +kernel
theorem dX10_clear_40 : decode cX10_clear 40 = .ok (.aload_n 0, 1) := by decide +kernel
theorem dX10_clear_41 : decode cX10_clear 41 = .ok (.iconst 0, 1) := by decide +kernel
theorem dX10_clear_42 : decode cX10_clear 42 = .ok (.putfield 219, 3) := by decide +kernel
theorem dX10_clear_45 : decode cX10_clear 45 = .ok (.aload_n 0, 1) := by decide +kernel
theorem dX10_clear_46 : decode cX10_clear 46 = .ok (.bipush 111, 2) := by decide +kernel
theorem dX10_clear_48 : decode cX10_clear 48 = .ok (.invokevirtual 48, 3) := by decide +kernel
theorem dX10_clear_51 : decode cX10_clear 51 = .ok (.iload_n 1, 1) := by decide +kernel
theorem dX10_clear_52 : decode cX10_clear 52 = .ok (.ireturn, 1) := by decide +kernel
theorem dJ6_numberOfLeadingZeros_0f7a4_0 : decode cJ6_numberOfLeadingZeros_0f7a4 0 = .ok (.iload_n 0, 1) := by decide +kernel
theorem dJ6_numberOfLeadingZeros_0f7a4_1 : decode cJ6_numberOfLeadingZeros_0f7a4 1 = .ok (.ifCond .gt 14, 3) := by decide +kernel
theorem dJ6_numberOfLeadingZeros_0f7a4_4 : decode cJ6_numberOfLeadingZeros_0f7a4 4 = .ok (.iload_n 0, 1) := by decide +kernel
theorem dJ6_numberOfLeadingZeros_0f7a4_5 : decode cJ6_numberOfLeadingZeros_0f7a4 5 = .ok (.ifCond .ne 8, 3) := by decide +kernel
theorem dJ6_numberOfLeadingZeros_0f7a4_8 : decode cJ6_numberOfLeadingZeros_0f7a4 8 = .ok (.bipush 32, 2) := by decide +kernel
theorem dJ6_numberOfLeadingZeros_0f7a4_10 : decode cJ6_numberOfLeadingZeros_0f7a4 10 = .ok (.goto 4, 3) := by decide +kernel
theorem dJ6_numberOfLeadingZeros_0f7a4_13 : decode cJ6_numberOfLeadingZeros_0f7a4 13 = .ok (.iconst 0, 1) := by decide +kernel
theorem dJ6_numberOfLeadingZeros_0f7a4_14 : decode cJ6_numberOfLeadingZeros_0f7a4 14 = .ok (.ireturn, 1) := by decide +kernel
theorem dJ6_numberOfLeadingZeros_0f7a4_15 : decode cJ6_numberOfLeadingZeros_0f7a4 15 = .ok (.bipush 31, 2) := by decide +kernel
theorem dJ6_numberOfLeadingZeros_0f7a4_17 : decode cJ6_numberOfLeadingZeros_0f7a4 17 = .ok (.istore_n 1, 1) := by decide +kernel
theorem dJ6_numberOfLeadingZeros_0f7a4_18 : decode cJ6_numberOfLeadingZeros_0f7a4 18 = .ok (.iload_n 0, 1) := by decide +kernel
theorem dJ6_numberOfLeadingZeros_0f7a4_19 : decode cJ6_numberOfLeadingZeros_0f7a4 19 = .ok (.ldc_w 264, 3) := by decide +kernel
theorem dJ6_numberOfLeadingZeros_0f7a4_22 : decode cJ6_numberOfLeadingZeros_0f7a4 22 = .ok (.if_icmp .lt 11, 3) := by decide +kernel
theorem dJ6_numberOfLeadingZeros_0f7a4_25 : decode cJ6_numberOfLeadingZeros_0f7a4 25 = .ok (.iinc 1 (-16), 3) := by decide +kernel
theorem dJ6_numberOfLeadingZeros_0f7a4_28 : decode cJ6_numberOfLeadingZeros_0f7a4 28 = .ok (.iload_n 0, 1) := by decide +kernel
theorem dJ6_numberOfLeadingZeros_0f7a4_29 : decode cJ6_numberOfLeadingZeros_0f7a4 29 = .ok (.bipush 16, 2) := by decide +kernel
theorem dJ6_numberOfLeadingZeros_0f7a4_31 : decode cJ6_numberOfLeadingZeros_0f7a4 31 = .ok (.iushr, 1) := by decide +kernel
theorem dJ6_numberOfLeadingZeros_0f7a4_32 : decode cJ6_numberOfLeadingZeros_0f7a4 32 = .ok (.istore_n 0, 1) := by decide +kernel
theorem dJ6_numberOfLeadingZeros_0f7a4_33 : decode cJ6_numberOfLeadingZeros_0f7a4 33 = .ok (.iload_n 0, 1) := by decide +kernel
theorem dJ6_numberOfLeadingZeros_0f7a4_34 : decode cJ6_numberOfLeadingZeros_0f7a4 34 = .ok (.sipush 256, 3) := by decide +kernel
theorem dJ6_numberOfLeadingZeros_0f7a4_37 : decode cJ6_numberOfLeadingZeros_0f7a4 37 = .ok (.if_icmp .lt 11, 3) := by decide +kernel
theorem dJ6_numberOfLeadingZeros_0f7a4_40 : decode cJ6_numberOfLeadingZeros_0f7a4 40 = .ok (.iinc 1 (-8), 3) := by decide +kernel
theorem dJ6_numberOfLeadingZeros_0f7a4_43 : decode cJ6_numberOfLeadingZeros_0f7a4 43 = .ok (.iload_n 0, 1) := by decide +kernel
theorem dJ6_numberOfLeadingZeros_0f7a4_44 : decode cJ6_numberOfLeadingZeros_0f7a4 44 = .ok (.bipush 8, 2) := by decide +kernel
theorem dJ6_numberOfLeadingZeros_0f7a4_46 : decode cJ6_numberOfLeadingZeros_0f7a4 46 = .ok (.iushr, 1) := by decide +kernel
theorem dJ6_numberOfLeadingZeros_0f7a4_47 : decode cJ6_numberOfLeadingZeros_0f7a4 47 = .ok (.istore_n 0, 1) := by decide +kernel
theorem dJ6_numberOfLeadingZeros_0f7a4_48 : decode cJ6_numberOfLeadingZeros_0f7a4 48 = .ok (.iload_n 0, 1) := by decide +kernel
theorem dJ6_numberOfLeadingZeros_0f7a4_49 : decode cJ6_numberOfLeadingZeros_0f7a4 49 = .ok (.bipush 16, 2) := by decide +kernel
theorem dJ6_numberOfLeadingZeros_0f7a4_51 : decode cJ6_numberOfLeadingZeros_0f7a4 51 = .ok (.if_icmp .lt 10, 3) := by decide +kernel
theorem dJ6_numberOfLeadingZeros_0f7a4_54 : decode cJ6_numberOfLeadingZeros_0f7a4 54 = .ok (.iinc 1 (-4), 3) := by decide +kernel
theorem dJ6_numberOfLeadingZeros_0f7a4_57 : decode cJ6_numberOfLeadingZeros_0f7a4 57 = .ok (.iload_n 0, 1) := by decide +kernel
theorem dJ6_numberOfLeadingZeros_0f7a4_58 : decode cJ6_numberOfLeadingZeros_0f7a4 58 = .ok (.iconst 4, 1) := by decide +kernel
theorem dJ6_numberOfLeadingZeros_0f7a4_59 : decode cJ6_numberOfLeadingZeros_0f7a4 59 = .ok (.iushr, 1) := by decide +kernel
theorem dJ6_numberOfLeadingZeros_0f7a4_60 : decode cJ6_numberOfLeadingZeros_0f7a4 60 = .ok (.istore_n 0, 1) := by decide +kernel
theorem dJ6_numberOfLeadingZeros_0f7a4_61 : decode cJ6_numberOfLeadingZeros_0f7a4 61 = .ok (.iload_n 0, 1) := by decide +kernel
theorem dJ6_numberOfLeadingZeros_0f7a4_62 : decode cJ6_numberOfLeadingZeros_0f7a4 62 = .ok (.iconst 4, 1) := by decide +kernel
theorem dJ6_numberOfLeadingZeros_0f7a4_63 : decode cJ6_numberOfLeadingZeros_0f7a4 63 = .ok (.if_icmp .lt 10, 3) := by decide +kernel
theorem dJ6_numberOfLeadingZeros_0f7a4_66 : decode cJ6_numberOfLeadingZeros_0f7a4 66 = .ok (.iinc 1 (-2), 3) := by decide +kernel
theorem dJ6_numberOfLeadingZeros_0f7a4_69 : decode cJ6_numberOfLeadingZeros_0f7a4 69 = .ok (.iload_n 0, 1) := by decide +kernel
theorem dJ6_numberOfLeadingZeros_0f7a4_70 : decode cJ6_numberOfLeadingZeros_0f7a4 70 = .ok (.iconst 2, 1) := by decide +kernel
theorem dJ6_numberOfLeadingZeros_0f7a4_71 : decode cJ6_numberOfLeadingZeros_0f7a4 71 = .ok (.iushr, 1) := by decide +kernel
theorem dJ6_numberOfLeadingZeros_0f7a4_72 : decode cJ6_numberOfLeadingZeros_0f7a4 72 = .ok (.istore_n 0, 1) := by decide +kernel
theorem dJ6_numberOfLeadingZeros_0f7a4_73 : decode cJ6_numberOfLeadingZeros_0f7a4 73 = .ok (.iload_n 1, 1) := by decide +kernel
theorem dJ6_numberOfLeadingZeros_0f7a4_74 : decode cJ6_numberOfLeadingZeros_0f7a4 74 = .ok (.iload_n 0, 1) := by decide +kernel
theorem dJ6_numberOfLeadingZeros_0f7a4_75 : decode cJ6_numberOfLeadingZeros_0f7a4 75 = .ok (.iconst 1, 1) := by decide +kernel
theorem dJ6_numberOfLeadingZeros_0f7a4_76 : decode cJ6_numberOfLeadingZeros_0f7a4 76 = .ok (.iushr, 1) := by decide +kernel
theorem dJ6_numberOfLeadingZeros_0f7a4_77 : decode cJ6_numberOfLeadingZeros_0f7a4 77 = .ok (.isub, 1) := by decide +kernel
theorem dJ6_numberOfLeadingZeros_0f7a4_78 : decode cJ6_numberOfLeadingZeros_0f7a4 78 = .ok (.ireturn, 1) := by decide +kernel
theorem dJ6_numberOfTrailingZeros_0f7a4_0 : decode cJ6_numberOfTrailingZeros_0f7a4 0 = .ok (.iload_n 0, 1) := by decide +kernel
theorem dJ6_numberOfTrailingZeros_0f7a4_1 : decode cJ6_numberOfTrailingZeros_0f7a4 1 = .ok (.iconst (-1), 1) := by decide +kernel
theorem dJ6_numberOfTrailingZeros_0f7a4_2 : decode cJ6_numberOfTrailingZeros_0f7a4 2 = .ok (.ixor, 1) := by decide +kernel
theorem dJ6_numberOfTrailingZeros_0f7a4_3 : decode cJ6_numberOfTrailingZeros_0f7a4 3 = .ok (.iload_n 0, 1) := by decide +kernel
theorem dJ6_numberOfTrailingZeros_0f7a4_4 : decode cJ6_numberOfTrailingZeros_0f7a4 4 = .ok (.iconst 1, 1) := by decide +kernel
theorem dJ6_numberOfTrailingZeros_0f7a4_5 : decode cJ6_numberOfTrailingZeros_0f7a4 5 = .ok (.isub, 1) := by decide +kernel
theorem dJ6_numberOfTrailingZeros_0f7a4_6 : decode cJ6_numberOfTrailingZeros_0f7a4 6 = .ok (.iand, 1) := by decide +kernel
theorem dJ6_numberOfTrailingZeros_0f7a4_7 : decode cJ6_numberOfTrailingZeros_0f7a4 7 = .ok (.istore_n 0, 1) := by decide +kernel
theorem dJ6_numberOfTrailingZeros_0f7a4_8 : decode cJ6_numberOfTrailingZeros_0f7a4 8 = .ok (.iload_n 0, 1) := by decide +kernel
theorem dJ6_numberOfTrailingZeros_0f7a4_9 : decode cJ6_numberOfTrailingZeros_0f7a4 9 = .ok (.ifCond .gt 8, 3) := by decide +kernel
theorem dJ6_numberOfTrailingZeros_0f7a4_12 : decode cJ6_numberOfTrailingZeros_0f7a4 12 = .ok (.iload_n 0, 1) := by decide +kernel
theorem dJ6_numberOfTrailingZeros_0f7a4_13 : decode cJ6_numberOfTrailingZeros_0f7a4 13 = .ok (.bipush 32, 2) := by decide +kernel
theorem dJ6_numberOfTrailingZeros_0f7a4_15 : decode cJ6_numberOfTrailingZeros_0f7a4 15 = .ok (.iand, 1) := by decide +kernel
theorem dJ6_numberOfTrailingZeros_0f7a4_16 : decode cJ6_numberOfTrailingZeros_0f7a4 16 = .ok (.ireturn, 1) := by decide +kernel
theorem dJ6_numberOfTrailingZeros_0f7a4_17 : decode cJ6_numberOfTrailingZeros_0f7a4 17 = .ok (.iconst 1, 1) := by decide +kernel
theorem dJ6_numberOfTrailingZeros_0f7a4_18 : decode cJ6_numberOfTrailingZeros_0f7a4 18 = .ok (.istore_n 1, 1) := by decide +kernel
theorem dJ6_numberOfTrailingZeros_0f7a4_19 : decode cJ6_numberOfTrailingZeros_0f7a4 19 = .ok (.iload_n 0, 1) := by decide +kernel
theorem dJ6_numberOfTrailingZeros_0f7a4_20 : decode cJ6_numberOfTrailingZeros_0f7a4 20 = .ok (.ldc_w 264, 3) := by decide +kernel
theorem dJ6_numberOfTrailingZeros_0f7a4_23 : decode cJ6_numberOfTrailingZeros_0f7a4 23 = .ok (.if_icmp .le 11, 3) := by decide +kernel
theorem dJ6_numberOfTrailingZeros_0f7a4_26 : decode cJ6_numberOfTrailingZeros_0f7a4 26 = .ok (.iinc 1 16, 3) := by decide +kernel
theorem dJ6_numberOfTrailingZeros_0f7a4_29 : decode cJ6_numberOfTrailingZeros_0f7a4 29 = .ok (.iload_n 0, 1) := by decide +kernel
theorem dJ6_numberOfTrailingZeros_0f7a4_30 : decode cJ6_numberOfTrailingZeros_0f7a4 30 = .ok (.bipush 16, 2) := by decide +kernel
theorem dJ6_numberOfTrailingZeros_0f7a4_32 : decode cJ6_numberOfTrailingZeros_0f7a4 32 = .ok (.iushr, 1) := by decide +kernel
theorem dJ6_numberOfTrailingZeros_0f7a4_33 : decode cJ6_numberOfTrailingZeros_0f7a4 33 = .ok (.istore_n 0, 1) := by decide +kernel
theorem dJ6_numberOfTrailingZeros_0f7a4_34 : decode cJ6_numberOfTrailingZeros_0f7a4 34 = .ok (.iload_n 0, 1) := by decide +kernel
theorem dJ6_numberOfTrailingZeros_0f7a4_35 : decode cJ6_numberOfTrailingZeros_0f7a4 35 = .ok (.sipush 256, 3) := by decide +kernel
theorem dJ6_numberOfTrailingZeros_0f7a4_38 : decode cJ6_numberOfTrailingZeros_0f7a4 38 = .ok (.if_icmp .le 11, 3) := by decide +kernel
theorem dJ6_numberOfTrailingZeros_0f7a4_41 : decode cJ6_numberOfTrailingZeros_0f7a4 41 = .ok (.iinc 1 8, 3) := by decide +kernel
theorem dJ6_numberOfTrailingZeros_0f7a4_44 : decode cJ6_numberOfTrailingZeros_0f7a4 44 = .ok (.iload_n 0, 1) := by decide +kernel
theorem dJ6_numberOfTrailingZeros_0f7a4_45 : decode cJ6_numberOfTrailingZeros_0f7a4 45 = .ok (.bipush 8, 2) := by decide +kernel
theorem dJ6_numberOfTrailingZeros_0f7a4_47 : decode cJ6_numberOfTrailingZeros_0f7a4 47 = .ok (.iushr, 1) := by decide +kernel
theorem dJ6_numberOfTrailingZeros_0f7a4_48 : decode cJ6_numberOfTrailingZeros_0f7a4 48 = .ok (.istore_n 0, 1) := by decide +kernel
theorem dJ6_numberOfTrailingZeros_0f7a4_49 : decode cJ6_numberOfTrailingZeros_0f7a4 49 = .ok (.iload_n 0, 1) := by decide +kernel
theorem dJ6_numberOfTrailingZeros_0f7a4_50 : decode cJ6_numberOfTrailingZeros_0f7a4 50 = .ok (.bipush 16, 2) := by decide +kernel
theorem dJ6_numberOfTrailingZeros_0f7a4_52 : decode cJ6_numberOfTrailingZeros_0f7a4 52 = .ok (.if_icmp .le 10, 3) := by decide +kernel
theorem dJ6_numberOfTrailingZeros_0f7a4_55 : decode cJ6_numberOfTrailingZeros_0f7a4 55 = .ok (.iinc 1 4, 3) := by decide +kernel
theorem dJ6_numberOfTrailingZeros_0f7a4_58 : decode cJ6_numberOfTrailingZeros_0f7a4 58 = .ok (.iload_n 0, 1) := by decide +kernel
theorem dJ6_numberOfTrailingZeros_0f7a4_59 : decode cJ6_numberOfTrailingZeros_0f7a4 59 = .ok (.iconst 4, 1) := by decide +kernel
theorem dJ6_numberOfTrailingZeros_0f7a4_60 : decode cJ6_numberOfTrailingZeros_0f7a4 60 = .ok (.iushr, 1) := by decide +kernel
theorem dJ6_numberOfTrailingZeros_0f7a4_61 : decode cJ6_numberOfTrailingZeros_0f7a4 61 = .ok (.istore_n 0, 1) := by decide +kernel
theorem dJ6_numberOfTrailingZeros_0f7a4_62 : decode cJ6_numberOfTrailingZeros_0f7a4 62 = .ok (.iload_n 0, 1) := by decide +kernel
theorem dJ6_numberOfTrailingZeros_0f7a4_63 : decode cJ6_numberOfTrailingZeros_0f7a4 63 = .ok (.iconst 4, 1) := by decide +kernel
theorem dJ6_numberOfTrailingZeros_0f7a4_64 : decode cJ6_numberOfTrailingZeros_0f7a4 64 = .ok (.if_icmp .le 10, 3) := by decide +kernel
theorem dJ6_numberOfTrailingZeros_0f7a4_67 : decode cJ6_numberOfTrailingZeros_0f7a4 67 = .ok (.iinc 1 2, 3) := by decide +kernel
theorem dJ6_numberOfTrailingZeros_0f7a4_70 : decode cJ6_numberOfTrailingZeros_0f7a4 70 = .ok (.iload_n 0, 1) := by decide +kernel
theorem dJ6_numberOfTrailingZeros_0f7a4_71 : decode cJ6_numberOfTrailingZeros_0f7a4 71 = .ok (.iconst 2, 1) := by decide +kernel
theorem dJ6_numberOfTrailingZeros_0f7a4_72 : decode cJ6_numberOfTrailingZeros_0f7a4 72 = .ok (.iushr, 1) := by decide +kernel
theorem dJ6_numberOfTrailingZeros_0f7a4_73 : decode cJ6_numberOfTrailingZeros_0f7a4 73 = .ok (.istore_n 0, 1) := by decide +kernel
theorem dJ6_numberOfTrailingZeros_0f7a4_74 : decode cJ6_numberOfTrailingZeros_0f7a4 74 = .ok (.iload_n 1, 1) := by decide +kernel
theorem dJ6_numberOfTrailingZeros_0f7a4_75 : decode cJ6_numberOfTrailingZeros_0f7a4 75 = .ok (.iload_n 0, 1) := by decide +kernel
theorem dJ6_numberOfTrailingZeros_0f7a4_76 : decode cJ6_numberOfTrailingZeros_0f7a4 76 = .ok (.iconst 1, 1) := by decide +kernel
theorem dJ6_numberOfTrailingZeros_0f7a4_77 : decode cJ6_numberOfTrailingZeros_0f7a4 77 = .ok (.iushr, 1) := by decide +kernel
theorem dJ6_numberOfTrailingZeros_0f7a4_78 : decode cJ6_numberOfTrailingZeros_0f7a4 78 = .ok (.iadd, 1) := by decide +kernel
theorem dJ6_numberOfTrailingZeros_0f7a4_79 : decode cJ6_numberOfTrailingZeros_0f7a4 79 = .ok (.ireturn, 1) := by decide +kernel
theorem dJ9_abs_067f4_0 : decode cJ9_abs_067f4 0 = .ok (.lload_n 0, 1) := by decide +kernel
theorem dJ9_abs_067f4_1 : decode cJ9_abs_067f4 1 = .ok (.lconst 0, 1) := by decide +kernel
theorem dJ9_abs_067f4_2 : decode cJ9_abs_067f4 2 = .ok (.lcmp, 1) := by decide +kernel
theorem dJ9_abs_067f4_3 : decode cJ9_abs_067f4 3 = .ok (.ifCond .ge 8, 3) := by decide +kernel
theorem dJ9_abs_067f4_6 : decode cJ9_abs_067f4 6 = .ok (.lload_n 0, 1) := by decide +kernel
theorem dJ9_abs_067f4_7 : decode cJ9_abs_067f4 7 = .ok (.lneg, 1) := by decide +kernel
theorem dJ9_abs_067f4_8 : decode cJ9_abs_067f4 8 = .ok (.goto 4, 3) := by decide +kernel
theorem dJ9_abs_067f4_11 : decode cJ9_abs_067f4 11 = .ok (.lload_n 0, 1) := by decide +kernel
theorem dJ9_abs_067f4_12 : decode cJ9_abs_067f4 12 = .ok (.lreturn, 1) := by decide +kernel
theorem dJ9_max_7cf53_0 : decode cJ9_max_7cf53 0 = .ok (.iload_n 0, 1) := by decide +kernel
theorem dJ9_max_7cf53_1 : decode cJ9_max_7cf53 1 = .ok (.iload_n 1, 1) := by decide +kernel
theorem dJ9_max_7cf53_2 : decode cJ9_max_7cf53 2 = .ok (.if_icmp .lt 7, 3) := by decide +kernel
theorem dJ9_max_7cf53_5 : decode cJ9_max_7cf53 5 = .ok (.iload_n 0, 1) := by decide +kernel
theorem dJ9_max_7cf53_6 : decode cJ9_max_7cf53 6 = .ok (.goto 4, 3) := by decide +kernel
theorem dJ9_max_7cf53_9 : decode cJ9_max_7cf53 9 = .ok (.iload_n 1, 1) := by decide +kernel
theorem dJ9_max_7cf53_10 : decode cJ9_max_7cf53 10 = .ok (.ireturn, 1) := by decide +kernel
theorem dJ9_min_7cf53_0 : decode cJ9_min_7cf53 0 = .ok (.iload_n 0, 1) := by decide +kernel
theorem dJ9_min_7cf53_1 : decode cJ9_min_7cf53 1 = .ok (.iload_n 1, 1) := by decide +kernel
theorem dJ9_min_7cf53_2 : decode cJ9_min_7cf53 2 = .ok (.if_icmp .gt 7, 3) := by decide +kernel
theorem dJ9_min_7cf53_5 : decode cJ9_min_7cf53 5 = .ok (.iload_n 0, 1) := by decide +kernel
theorem dJ9_min_7cf53_6 : decode cJ9_min_7cf53 6 = .ok (.goto 4, 3) := by decide +kernel
theorem dJ9_min_7cf53_9 : decode cJ9_min_7cf53 9 = .ok (.iload_n 1, 1) := by decide +kernel
theorem dJ9_min_7cf53_10 : decode cJ9_min_7cf53 10 = .ok (.ireturn, 1) := by decide +kernel
theorem dL_cell_0 : decode cL_cell 0 = .ok (.iload_n 1, 1) := by decide +kernel
theorem dL_cell_1 : decode cL_cell 1 = .ok (.aload_n 0, 1) := by decide +kernel
theorem dL_cell_2 : decode cL_cell 2 = .ok (.arraylength, 1) := by decide +kernel
theorem dL_cell_3 : decode cL_cell 3 = .ok (.if_icmp .ge 9, 3) := by decide +kernel
theorem dL_cell_6 : decode cL_cell 6 = .ok (.aload_n 0, 1) := by decide +kernel
theorem dL_cell_7 : decode cL_cell 7 = .ok (.iload_n 1, 1) := by decide +kernel
theorem dL_cell_8 : decode cL_cell 8 = .ok (.iaload, 1) := by decide +kernel
theorem dL_cell_9 : decode cL_cell 9 = .ok (.goto 4, 3) := by decide +kernel
theorem dL_cell_12 : decode cL_cell 12 = .ok (.iconst 0, 1) := by decide +kernel
theorem dL_cell_13 : decode cL_cell 13 = .ok (.ireturn, 1) := by decide +kernel
theorem dL_quotient_0 : decode cL_quotient 0 = .ok (.aload_n 3, 1) := by decide +kernel
theorem dL_quotient_1 : decode cL_quotient 1 = .ok (.iconst 0, 1) := by decide +kernel
theorem dL_quotient_2 : decode cL_quotient 2 = .ok (.aload_n 0, 1) := by decide +kernel
theorem dL_quotient_3 : decode cL_quotient 3 = .ok (.iload_n 1, 1) := by decide +kernel
theorem dL_quotient_4 : decode cL_quotient 4 = .ok (.iload_n 2, 1) := by decide +kernel
theorem dL_quotient_5 : decode cL_quotient 5 = .ok (.invokevirtual 7, 3) := by decide +kernel
theorem dL_quotient_8 : decode cL_quotient 8 = .ok (.i2l, 1) := by decide +kernel
theorem dL_quotient_9 : decode cL_quotient 9 = .ok (.lastore, 1) := by decide +kernel
theorem dL_quotient_10 : decode cL_quotient 10 = .ok (.goto 7, 3) := by decide +kernel
theorem dL_quotient_13 : decode cL_quotient 13 = .ok (.astore 4, 2) := by decide +kernel
theorem dL_quotient_15 : decode cL_quotient 15 = .ok (.iconst 1, 1) := by decide +kernel
theorem dL_quotient_16 : decode cL_quotient 16 = .ok (.ireturn, 1) := by decide +kernel
theorem dL_quotient_17 : decode cL_quotient 17 = .ok (.iconst 0, 1) := by decide +kernel
theorem dL_quotient_18 : decode cL_quotient 18 = .ok (.ireturn, 1) := by decide +kernel
theorem dL_limb_0 : decode cL_limb 0 = .ok (.aload 4, 2) := by decide +kernel
theorem dL_limb_2 : decode cL_limb 2 = .ok (.iconst 0, 1) := by decide +kernel
theorem dL_limb_3 : decode cL_limb 3 = .ok (.aload_n 0, 1) := by decide +kernel
theorem dL_limb_4 : decode cL_limb 4 = .ok (.iload_n 1, 1) := by decide +kernel
theorem dL_limb_5 : decode cL_limb 5 = .ok (.iload_n 2, 1) := by decide +kernel
theorem dL_limb_6 : decode cL_limb 6 = .ok (.iload_n 3, 1) := by decide +kernel
theorem dL_limb_7 : decode cL_limb 7 = .ok (.invokevirtual 15, 3) := by decide +kernel
theorem dL_limb_10 : decode cL_limb 10 = .ok (.i2l, 1) := by decide +kernel
theorem dL_limb_11 : decode cL_limb 11 = .ok (.lastore, 1) := by decide +kernel
theorem dL_limb_12 : decode cL_limb 12 = .ok (.goto 7, 3) := by decide +kernel
theorem dL_limb_15 : decode cL_limb 15 = .ok (.astore 5, 2) := by decide +kernel
theorem dL_limb_17 : decode cL_limb 17 = .ok (.iconst 1, 1) := by decide +kernel
theorem dL_limb_18 : decode cL_limb 18 = .ok (.ireturn, 1) := by decide +kernel
theorem dL_limb_19 : decode cL_limb 19 = .ok (.iconst 0, 1) := by decide +kernel
theorem dL_limb_20 : decode cL_limb 20 = .ok (.ireturn, 1) := by decide +kernel
theorem dL_law_0 : decode cL_law 0 = .ok (.new 8, 3) := by decide +kernel
theorem dL_law_3 : decode cL_law 3 = .ok (.dup, 1) := by decide +kernel
theorem dL_law_4 : decode cL_law 4 = .ok (.aload_n 0, 1) := by decide +kernel
theorem dL_law_5 : decode cL_law 5 = .ok (.iconst 0, 1) := by decide +kernel
theorem dL_law_6 : decode cL_law 6 = .ok (.invokestatic 21, 3) := by decide +kernel
theorem dL_law_9 : decode cL_law 9 = .ok (.invokespecial 27, 3) := by decide +kernel
theorem dL_law_12 : decode cL_law 12 = .ok (.astore_n 1, 1) := by decide +kernel
theorem dL_law_13 : decode cL_law 13 = .ok (.new 30, 3) := by decide +kernel
theorem dL_law_16 : decode cL_law 16 = .ok (.dup, 1) := by decide +kernel
theorem dL_law_17 : decode cL_law 17 = .ok (.aload_n 0, 1) := by decide +kernel
theorem dL_law_18 : decode cL_law 18 = .ok (.iconst 0, 1) := by decide +kernel
theorem dL_law_19 : decode cL_law 19 = .ok (.invokestatic 21, 3) := by decide +kernel
theorem dL_law_22 : decode cL_law 22 = .ok (.invokespecial 32, 3) := by decide +kernel
theorem dL_law_25 : decode cL_law 25 = .ok (.astore_n 2, 1) := by decide +kernel
theorem dL_law_26 : decode cL_law 26 = .ok (.iconst 1, 1) := by decide +kernel
theorem dL_law_27 : decode cL_law 27 = .ok (.newarray .long, 2) := by decide +kernel
theorem dL_law_29 : decode cL_law 29 = .ok (.astore_n 3, 1) := by decide +kernel
theorem dL_law_30 : decode cL_law 30 = .ok (.iconst 1, 1) := by decide +kernel
theorem dL_law_31 : decode cL_law 31 = .ok (.istore 4, 2) := by decide +kernel
theorem dL_law_33 : decode cL_law 33 = .ok (.iload 4, 2) := by decide +kernel
theorem dL_law_35 : decode cL_law 35 = .ok (.aload_n 0, 1) := by decide +kernel
theorem dL_law_36 : decode cL_law 36 = .ok (.arraylength, 1) := by decide +kernel
theorem dL_law_37 : decode cL_law 37 = .ok (.bipush 7, 2) := by decide +kernel
theorem dL_law_39 : decode cL_law 39 = .ok (.isub, 1) := by decide +kernel
theorem dL_law_40 : decode cL_law 40 = .ok (.if_icmp .gt 1131, 3) := by decide +kernel
theorem dL_law_43 : decode cL_law 43 = .ok (.aload_n 0, 1) := by decide +kernel
theorem dL_law_44 : decode cL_law 44 = .ok (.iload 4, 2) := by decide +kernel
theorem dL_law_46 : decode cL_law 46 = .ok (.iaload, 1) := by decide +kernel
theorem dL_law_47 : decode cL_law 47 = .ok (.bipush 31, 2) := by decide +kernel
theorem dL_law_49 : decode cL_law 49 = .ok (.iand, 1) := by decide +kernel
theorem dL_law_50 : decode cL_law 50 = .ok (.tableswitch 1115 0 24 #[114, 215, 264, 332, 345, 382, 419, 499, 626, 675, 712, 737, 750, 775, 812, 837, 862, 899, 936, 961, 974, 987, 1052, 1077, 1102], 114) := by decide +kernel
theorem dL_law_164 : decode cL_law 164 = .ok (.aload_n 1, 1) := by decide +kernel
theorem dL_law_165 : decode cL_law 165 = .ok (.aload_n 0, 1) := by decide +kernel
theorem dL_law_166 : decode cL_law 166 = .ok (.iload 4, 2) := by decide +kernel
theorem dL_law_168 : decode cL_law 168 = .ok (.iconst 1, 1) := by decide +kernel
theorem dL_law_169 : decode cL_law 169 = .ok (.iadd, 1) := by decide +kernel
theorem dL_law_170 : decode cL_law 170 = .ok (.iaload, 1) := by decide +kernel
theorem dL_law_171 : decode cL_law 171 = .ok (.i2l, 1) := by decide +kernel
theorem dL_law_172 : decode cL_law 172 = .ok (.bipush 32, 2) := by decide +kernel
theorem dL_law_174 : decode cL_law 174 = .ok (.lshl, 1) := by decide +kernel
theorem dL_law_175 : decode cL_law 175 = .ok (.aload_n 0, 1) := by decide +kernel
theorem dL_law_176 : decode cL_law 176 = .ok (.iload 4, 2) := by decide +kernel
theorem dL_law_178 : decode cL_law 178 = .ok (.iconst 2, 1) := by decide +kernel
theorem dL_law_179 : decode cL_law 179 = .ok (.iadd, 1) := by decide +kernel
theorem dL_law_180 : decode cL_law 180 = .ok (.iaload, 1) := by decide +kernel
theorem dL_law_181 : decode cL_law 181 = .ok (.i2l, 1) := by decide +kernel
theorem dL_law_182 : decode cL_law 182 = .ok (.ldc2_w 33, 3) := by decide +kernel
theorem dL_law_185 : decode cL_law 185 = .ok (.land, 1) := by decide +kernel
theorem dL_law_186 : decode cL_law 186 = .ok (.lor, 1) := by decide +kernel
theorem dL_law_187 : decode cL_law 187 = .ok (.aload_n 0, 1) := by decide +kernel
theorem dL_law_188 : decode cL_law 188 = .ok (.iload 4, 2) := by decide +kernel
theorem dL_law_190 : decode cL_law 190 = .ok (.iconst 3, 1) := by decide +kernel
theorem dL_law_191 : decode cL_law 191 = .ok (.iadd, 1) := by decide +kernel
theorem dL_law_192 : decode cL_law 192 = .ok (.iaload, 1) := by decide +kernel
theorem dL_law_193 : decode cL_law 193 = .ok (.i2l, 1) := by decide +kernel
theorem dL_law_194 : decode cL_law 194 = .ok (.bipush 32, 2) := by decide +kernel
theorem dL_law_196 : decode cL_law 196 = .ok (.lshl, 1) := by decide +kernel
theorem dL_law_197 : decode cL_law 197 = .ok (.aload_n 0, 1) := by decide +kernel
theorem dL_law_198 : decode cL_law 198 = .ok (.iload 4, 2) := by decide +kernel
theorem dL_law_200 : decode cL_law 200 = .ok (.iconst 4, 1) := by decide +kernel
theorem dL_law_201 : decode cL_law 201 = .ok (.iadd, 1) := by decide +kernel
theorem dL_law_202 : decode cL_law 202 = .ok (.iaload, 1) := by decide +kernel
theorem dL_law_203 : decode cL_law 203 = .ok (.i2l, 1) := by decide +kernel
theorem dL_law_204 : decode cL_law 204 = .ok (.ldc2_w 33, 3) := by decide +kernel
theorem dL_law_207 : decode cL_law 207 = .ok (.land, 1) := by decide +kernel
theorem dL_law_208 : decode cL_law 208 = .ok (.lor, 1) := by decide +kernel
theorem dL_law_209 : decode cL_law 209 = .ok (.invokevirtual 35, 3) := by decide +kernel
theorem dL_law_212 : decode cL_law 212 = .ok (.aload_n 2, 1) := by decide +kernel
theorem dL_law_213 : decode cL_law 213 = .ok (.aload_n 0, 1) := by decide +kernel
theorem dL_law_214 : decode cL_law 214 = .ok (.iload 4, 2) := by decide +kernel
theorem dL_law_216 : decode cL_law 216 = .ok (.iconst 1, 1) := by decide +kernel
theorem dL_law_217 : decode cL_law 217 = .ok (.iadd, 1) := by decide +kernel
theorem dL_law_218 : decode cL_law 218 = .ok (.iaload, 1) := by decide +kernel
theorem dL_law_219 : decode cL_law 219 = .ok (.i2l, 1) := by decide +kernel
theorem dL_law_220 : decode cL_law 220 = .ok (.bipush 32, 2) := by decide +kernel
theorem dL_law_222 : decode cL_law 222 = .ok (.lshl, 1) := by decide +kernel
theorem dL_law_223 : decode cL_law 223 = .ok (.aload_n 0, 1) := by decide +kernel
theorem dL_law_224 : decode cL_law 224 = .ok (.iload 4, 2) := by decide +kernel
theorem dL_law_226 : decode cL_law 226 = .ok (.iconst 2, 1) := by decide +kernel
theorem dL_law_227 : decode cL_law 227 = .ok (.iadd, 1) := by decide +kernel
theorem dL_law_228 : decode cL_law 228 = .ok (.iaload, 1) := by decide +kernel
theorem dL_law_229 : decode cL_law 229 = .ok (.i2l, 1) := by decide +kernel
theorem dL_law_230 : decode cL_law 230 = .ok (.ldc2_w 33, 3) := by decide +kernel
theorem dL_law_233 : decode cL_law 233 = .ok (.land, 1) := by decide +kernel
theorem dL_law_234 : decode cL_law 234 = .ok (.lor, 1) := by decide +kernel
theorem dL_law_235 : decode cL_law 235 = .ok (.aload_n 0, 1) := by decide +kernel
theorem dL_law_236 : decode cL_law 236 = .ok (.iload 4, 2) := by decide +kernel
theorem dL_law_238 : decode cL_law 238 = .ok (.iconst 3, 1) := by decide +kernel
theorem dL_law_239 : decode cL_law 239 = .ok (.iadd, 1) := by decide +kernel
theorem dL_law_240 : decode cL_law 240 = .ok (.iaload, 1) := by decide +kernel
theorem dL_law_241 : decode cL_law 241 = .ok (.i2l, 1) := by decide +kernel
theorem dL_law_242 : decode cL_law 242 = .ok (.bipush 32, 2) := by decide +kernel
theorem dL_law_244 : decode cL_law 244 = .ok (.lshl, 1) := by decide +kernel
theorem dL_law_245 : decode cL_law 245 = .ok (.aload_n 0, 1) := by decide +kernel
theorem dL_law_246 : decode cL_law 246 = .ok (.iload 4, 2) := by decide +kernel
theorem dL_law_248 : decode cL_law 248 = .ok (.iconst 4, 1) := by decide +kernel
theorem dL_law_249 : decode cL_law 249 = .ok (.iadd, 1) := by decide +kernel
theorem dL_law_250 : decode cL_law 250 = .ok (.iaload, 1) := by decide +kernel
theorem dL_law_251 : decode cL_law 251 = .ok (.i2l, 1) := by decide +kernel
theorem dL_law_252 : decode cL_law 252 = .ok (.ldc2_w 33, 3) := by decide +kernel
theorem dL_law_255 : decode cL_law 255 = .ok (.land, 1) := by decide +kernel
theorem dL_law_256 : decode cL_law 256 = .ok (.lor, 1) := by decide +kernel
theorem dL_law_257 : decode cL_law 257 = .ok (.invokevirtual 39, 3) := by decide +kernel
theorem dL_law_260 : decode cL_law 260 = .ok (.if_icmp .eq 905, 3) := by decide +kernel
theorem dL_law_263 : decode cL_law 263 = .ok (.iconst 0, 1) := by decide +kernel
theorem dL_law_264 : decode cL_law 264 = .ok (.ireturn, 1) := by decide +kernel
theorem dL_law_265 : decode cL_law 265 = .ok (.aload_n 1, 1) := by decide +kernel
theorem dL_law_266 : decode cL_law 266 = .ok (.aload_n 0, 1) := by decide +kernel
theorem dL_law_267 : decode cL_law 267 = .ok (.iload 4, 2) := by decide +kernel
theorem dL_law_269 : decode cL_law 269 = .ok (.iconst 1, 1) := by decide +kernel
theorem dL_law_270 : decode cL_law 270 = .ok (.iadd, 1) := by decide +kernel
theorem dL_law_271 : decode cL_law 271 = .ok (.iaload, 1) := by decide +kernel
theorem dL_law_272 : decode cL_law 272 = .ok (.aload_n 0, 1) := by decide +kernel
theorem dL_law_273 : decode cL_law 273 = .ok (.iload 4, 2) := by decide +kernel
theorem dL_law_275 : decode cL_law 275 = .ok (.iconst 2, 1) := by decide +kernel
theorem dL_law_276 : decode cL_law 276 = .ok (.iadd, 1) := by decide +kernel
theorem dL_law_277 : decode cL_law 277 = .ok (.iaload, 1) := by decide +kernel
theorem dL_law_278 : decode cL_law 278 = .ok (.aload_n 0, 1) := by decide +kernel
theorem dL_law_279 : decode cL_law 279 = .ok (.iload 4, 2) := by decide +kernel
theorem dL_law_281 : decode cL_law 281 = .ok (.iconst 3, 1) := by decide +kernel
theorem dL_law_282 : decode cL_law 282 = .ok (.iadd, 1) := by decide +kernel
theorem dL_law_283 : decode cL_law 283 = .ok (.iaload, 1) := by decide +kernel
theorem dL_law_284 : decode cL_law 284 = .ok (.invokevirtual 40, 3) := by decide +kernel
theorem dL_law_287 : decode cL_law 287 = .ok (.aload_n 2, 1) := by decide +kernel
theorem dL_law_288 : decode cL_law 288 = .ok (.aload_n 0, 1) := by decide +kernel
theorem dL_law_289 : decode cL_law 289 = .ok (.iload 4, 2) := by decide +kernel
theorem dL_law_291 : decode cL_law 291 = .ok (.iconst 1, 1) := by decide +kernel
theorem dL_law_292 : decode cL_law 292 = .ok (.iadd, 1) := by decide +kernel
theorem dL_law_293 : decode cL_law 293 = .ok (.iaload, 1) := by decide +kernel
theorem dL_law_294 : decode cL_law 294 = .ok (.aload_n 0, 1) := by decide +kernel
theorem dL_law_295 : decode cL_law 295 = .ok (.iload 4, 2) := by decide +kernel
theorem dL_law_297 : decode cL_law 297 = .ok (.iconst 2, 1) := by decide +kernel
theorem dL_law_298 : decode cL_law 298 = .ok (.iadd, 1) := by decide +kernel
theorem dL_law_299 : decode cL_law 299 = .ok (.iaload, 1) := by decide +kernel
theorem dL_law_300 : decode cL_law 300 = .ok (.aload_n 0, 1) := by decide +kernel
theorem dL_law_301 : decode cL_law 301 = .ok (.iload 4, 2) := by decide +kernel
theorem dL_law_303 : decode cL_law 303 = .ok (.iconst 3, 1) := by decide +kernel
theorem dL_law_304 : decode cL_law 304 = .ok (.iadd, 1) := by decide +kernel
theorem dL_law_305 : decode cL_law 305 = .ok (.iaload, 1) := by decide +kernel
theorem dL_law_306 : decode cL_law 306 = .ok (.invokevirtual 43, 3) := by decide +kernel
theorem dL_law_309 : decode cL_law 309 = .ok (.if_icmp .eq 856, 3) := by decide +kernel
theorem dL_law_312 : decode cL_law 312 = .ok (.iconst 0, 1) := by decide +kernel
theorem dL_law_313 : decode cL_law 313 = .ok (.ireturn, 1) := by decide +kernel
theorem dL_law_314 : decode cL_law 314 = .ok (.aload_n 1, 1) := by decide +kernel
theorem dL_law_315 : decode cL_law 315 = .ok (.aload_n 0, 1) := by decide +kernel
theorem dL_law_316 : decode cL_law 316 = .ok (.iload 4, 2) := by decide +kernel
theorem dL_law_318 : decode cL_law 318 = .ok (.iconst 1, 1) := by decide +kernel
theorem dL_law_319 : decode cL_law 319 = .ok (.iadd, 1) := by decide +kernel
theorem dL_law_320 : decode cL_law 320 = .ok (.iaload, 1) := by decide +kernel
theorem dL_law_321 : decode cL_law 321 = .ok (.aload_n 0, 1) := by decide +kernel
theorem dL_law_322 : decode cL_law 322 = .ok (.iload 4, 2) := by decide +kernel
theorem dL_law_324 : decode cL_law 324 = .ok (.iconst 2, 1) := by decide +kernel
theorem dL_law_325 : decode cL_law 325 = .ok (.iadd, 1) := by decide +kernel
theorem dL_law_326 : decode cL_law 326 = .ok (.iaload, 1) := by decide +kernel
theorem dL_law_327 : decode cL_law 327 = .ok (.aload_n 3, 1) := by decide +kernel
theorem dL_law_328 : decode cL_law 328 = .ok (.invokestatic 44, 3) := by decide +kernel
theorem dL_law_331 : decode cL_law 331 = .ok (.istore 5, 2) := by decide +kernel
theorem dL_law_333 : decode cL_law 333 = .ok (.aload_n 2, 1) := by decide +kernel
theorem dL_law_334 : decode cL_law 334 = .ok (.aload_n 0, 1) := by decide +kernel
theorem dL_law_335 : decode cL_law 335 = .ok (.iload 4, 2) := by decide +kernel
theorem dL_law_337 : decode cL_law 337 = .ok (.iconst 1, 1) := by decide +kernel
theorem dL_law_338 : decode cL_law 338 = .ok (.iadd, 1) := by decide +kernel
theorem dL_law_339 : decode cL_law 339 = .ok (.iaload, 1) := by decide +kernel
theorem dL_law_340 : decode cL_law 340 = .ok (.aload_n 0, 1) := by decide +kernel
theorem dL_law_341 : decode cL_law 341 = .ok (.iload 4, 2) := by decide +kernel
theorem dL_law_343 : decode cL_law 343 = .ok (.iconst 2, 1) := by decide +kernel
theorem dL_law_344 : decode cL_law 344 = .ok (.iadd, 1) := by decide +kernel
theorem dL_law_345 : decode cL_law 345 = .ok (.iaload, 1) := by decide +kernel
theorem dL_law_346 : decode cL_law 346 = .ok (.invokevirtual 47, 3) := by decide +kernel
theorem dL_law_349 : decode cL_law 349 = .ok (.istore 6, 2) := by decide +kernel
theorem dL_law_351 : decode cL_law 351 = .ok (.aload_n 2, 1) := by decide +kernel
theorem dL_law_352 : decode cL_law 352 = .ok (.invokevirtual 48, 3) := by decide +kernel
theorem dL_law_355 : decode cL_law 355 = .ok (.iload 5, 2) := by decide +kernel
theorem dL_law_357 : decode cL_law 357 = .ok (.if_icmp .eq 5, 3) := by decide +kernel
theorem dL_law_360 : decode cL_law 360 = .ok (.iconst 0, 1) := by decide +kernel
theorem dL_law_361 : decode cL_law 361 = .ok (.ireturn, 1) := by decide +kernel
theorem dL_law_362 : decode cL_law 362 = .ok (.iload 5, 2) := by decide +kernel
theorem dL_law_364 : decode cL_law 364 = .ok (.ifCond .ne 15, 3) := by decide +kernel
theorem dL_law_367 : decode cL_law 367 = .ok (.aload_n 3, 1) := by decide +kernel
theorem dL_law_368 : decode cL_law 368 = .ok (.iconst 0, 1) := by decide +kernel
theorem dL_law_369 : decode cL_law 369 = .ok (.laload, 1) := by decide +kernel
theorem dL_law_370 : decode cL_law 370 = .ok (.iload 6, 2) := by decide +kernel
theorem dL_law_372 : decode cL_law 372 = .ok (.i2l, 1) := by decide +kernel
theorem dL_law_373 : decode cL_law 373 = .ok (.lcmp, 1) := by decide +kernel
theorem dL_law_374 : decode cL_law 374 = .ok (.ifCond .eq 5, 3) := by decide +kernel
theorem dL_law_377 : decode cL_law 377 = .ok (.iconst 0, 1) := by decide +kernel
theorem dL_law_378 : decode cL_law 378 = .ok (.ireturn, 1) := by decide +kernel
theorem dL_law_379 : decode cL_law 379 = .ok (.goto 786, 3) := by decide +kernel
theorem dL_law_382 : decode cL_law 382 = .ok (.aload_n 1, 1) := by decide +kernel
theorem dL_law_383 : decode cL_law 383 = .ok (.invokevirtual 52, 3) := by decide +kernel
theorem dL_law_386 : decode cL_law 386 = .ok (.aload_n 2, 1) := by decide +kernel
theorem dL_law_387 : decode cL_law 387 = .ok (.invokevirtual 55, 3) := by decide +kernel
theorem dL_law_390 : decode cL_law 390 = .ok (.if_icmp .eq 775, 3) := by decide +kernel
theorem dL_law_393 : decode cL_law 393 = .ok (.iconst 0, 1) := by decide +kernel
theorem dL_law_394 : decode cL_law 394 = .ok (.ireturn, 1) := by decide +kernel
theorem dL_law_395 : decode cL_law 395 = .ok (.aload_n 1, 1) := by decide +kernel
theorem dL_law_396 : decode cL_law 396 = .ok (.aload_n 0, 1) := by decide +kernel
theorem dL_law_397 : decode cL_law 397 = .ok (.iload 4, 2) := by decide +kernel
theorem dL_law_399 : decode cL_law 399 = .ok (.iconst 1, 1) := by decide +kernel
theorem dL_law_400 : decode cL_law 400 = .ok (.iadd, 1) := by decide +kernel
theorem dL_law_401 : decode cL_law 401 = .ok (.iaload, 1) := by decide +kernel
theorem dL_law_402 : decode cL_law 402 = .ok (.aload_n 0, 1) := by decide +kernel
theorem dL_law_403 : decode cL_law 403 = .ok (.iload 4, 2) := by decide +kernel
theorem dL_law_405 : decode cL_law 405 = .ok (.iconst 2, 1) := by decide +kernel
theorem dL_law_406 : decode cL_law 406 = .ok (.iadd, 1) := by decide +kernel
theorem dL_law_407 : decode cL_law 407 = .ok (.iaload, 1) := by decide +kernel
theorem dL_law_408 : decode cL_law 408 = .ok (.invokevirtual 56, 3) := by decide +kernel
theorem dL_law_411 : decode cL_law 411 = .ok (.aload_n 2, 1) := by decide +kernel
theorem dL_law_412 : decode cL_law 412 = .ok (.aload_n 0, 1) := by decide +kernel
theorem dL_law_413 : decode cL_law 413 = .ok (.iload 4, 2) := by decide +kernel
theorem dL_law_415 : decode cL_law 415 = .ok (.iconst 1, 1) := by decide +kernel
theorem dL_law_416 : decode cL_law 416 = .ok (.iadd, 1) := by decide +kernel
theorem dL_law_417 : decode cL_law 417 = .ok (.iaload, 1) := by decide +kernel
theorem dL_law_418 : decode cL_law 418 = .ok (.aload_n 0, 1) := by decide +kernel
theorem dL_law_419 : decode cL_law 419 = .ok (.iload 4, 2) := by decide +kernel
theorem dL_law_421 : decode cL_law 421 = .ok (.iconst 2, 1) := by decide +kernel
theorem dL_law_422 : decode cL_law 422 = .ok (.iadd, 1) := by decide +kernel
theorem dL_law_423 : decode cL_law 423 = .ok (.iaload, 1) := by decide +kernel
theorem dL_law_424 : decode cL_law 424 = .ok (.invokevirtual 59, 3) := by decide +kernel
theorem dL_law_427 : decode cL_law 427 = .ok (.if_icmp .eq 738, 3) := by decide +kernel
theorem dL_law_430 : decode cL_law 430 = .ok (.iconst 0, 1) := by decide +kernel
theorem dL_law_431 : decode cL_law 431 = .ok (.ireturn, 1) := by decide +kernel
theorem dL_law_432 : decode cL_law 432 = .ok (.aload_n 1, 1) := by decide +kernel
theorem dL_law_433 : decode cL_law 433 = .ok (.aload_n 0, 1) := by decide +kernel
theorem dL_law_434 : decode cL_law 434 = .ok (.iload 4, 2) := by decide +kernel
theorem dL_law_436 : decode cL_law 436 = .ok (.iconst 1, 1) := by decide +kernel
theorem dL_law_437 : decode cL_law 437 = .ok (.iadd, 1) := by decide +kernel
theorem dL_law_438 : decode cL_law 438 = .ok (.iaload, 1) := by decide +kernel
theorem dL_law_439 : decode cL_law 439 = .ok (.aload_n 0, 1) := by decide +kernel
theorem dL_law_440 : decode cL_law 440 = .ok (.iload 4, 2) := by decide +kernel
theorem dL_law_442 : decode cL_law 442 = .ok (.iconst 2, 1) := by decide +kernel
theorem dL_law_443 : decode cL_law 443 = .ok (.iadd, 1) := by decide +kernel
theorem dL_law_444 : decode cL_law 444 = .ok (.iaload, 1) := by decide +kernel
theorem dL_law_445 : decode cL_law 445 = .ok (.invokevirtual 60, 3) := by decide +kernel
theorem dL_law_448 : decode cL_law 448 = .ok (.aload_n 2, 1) := by decide +kernel
theorem dL_law_449 : decode cL_law 449 = .ok (.aload_n 0, 1) := by decide +kernel
theorem dL_law_450 : decode cL_law 450 = .ok (.iload 4, 2) := by decide +kernel
theorem dL_law_452 : decode cL_law 452 = .ok (.iconst 1, 1) := by decide +kernel
theorem dL_law_453 : decode cL_law 453 = .ok (.iadd, 1) := by decide +kernel
theorem dL_law_454 : decode cL_law 454 = .ok (.iaload, 1) := by decide +kernel
theorem dL_law_455 : decode cL_law 455 = .ok (.aload_n 0, 1) := by decide +kernel
theorem dL_law_456 : decode cL_law 456 = .ok (.iload 4, 2) := by decide +kernel
theorem dL_law_458 : decode cL_law 458 = .ok (.iconst 2, 1) := by decide +kernel
theorem dL_law_459 : decode cL_law 459 = .ok (.iadd, 1) := by decide +kernel
theorem dL_law_460 : decode cL_law 460 = .ok (.iaload, 1) := by decide +kernel
theorem dL_law_461 : decode cL_law 461 = .ok (.invokevirtual 63, 3) := by decide +kernel
theorem dL_law_464 : decode cL_law 464 = .ok (.if_icmp .eq 701, 3) := by decide +kernel
theorem dL_law_467 : decode cL_law 467 = .ok (.iconst 0, 1) := by decide +kernel
theorem dL_law_468 : decode cL_law 468 = .ok (.ireturn, 1) := by decide +kernel
theorem dL_law_469 : decode cL_law 469 = .ok (.aload_n 1, 1) := by decide +kernel
theorem dL_law_470 : decode cL_law 470 = .ok (.aload_n 0, 1) := by decide +kernel
theorem dL_law_471 : decode cL_law 471 = .ok (.iload 4, 2) := by decide +kernel
theorem dL_law_473 : decode cL_law 473 = .ok (.iconst 1, 1) := by decide +kernel
theorem dL_law_474 : decode cL_law 474 = .ok (.iadd, 1) := by decide +kernel
theorem dL_law_475 : decode cL_law 475 = .ok (.iaload, 1) := by decide +kernel
theorem dL_law_476 : decode cL_law 476 = .ok (.aload_n 0, 1) := by decide +kernel
theorem dL_law_477 : decode cL_law 477 = .ok (.iload 4, 2) := by decide +kernel
theorem dL_law_479 : decode cL_law 479 = .ok (.iconst 2, 1) := by decide +kernel
theorem dL_law_480 : decode cL_law 480 = .ok (.iadd, 1) := by decide +kernel
theorem dL_law_481 : decode cL_law 481 = .ok (.iaload, 1) := by decide +kernel
theorem dL_law_482 : decode cL_law 482 = .ok (.aload_n 0, 1) := by decide +kernel
theorem dL_law_483 : decode cL_law 483 = .ok (.iload 4, 2) := by decide +kernel
theorem dL_law_485 : decode cL_law 485 = .ok (.iconst 3, 1) := by decide +kernel
theorem dL_law_486 : decode cL_law 486 = .ok (.iadd, 1) := by decide +kernel
theorem dL_law_487 : decode cL_law 487 = .ok (.iaload, 1) := by decide +kernel
theorem dL_law_488 : decode cL_law 488 = .ok (.aload_n 3, 1) := by decide +kernel
theorem dL_law_489 : decode cL_law 489 = .ok (.invokestatic 64, 3) := by decide +kernel
theorem dL_law_492 : decode cL_law 492 = .ok (.istore 5, 2) := by decide +kernel
theorem dL_law_494 : decode cL_law 494 = .ok (.aload_n 2, 1) := by decide +kernel
theorem dL_law_495 : decode cL_law 495 = .ok (.aload_n 0, 1) := by decide +kernel
theorem dL_law_496 : decode cL_law 496 = .ok (.iload 4, 2) := by decide +kernel
theorem dL_law_498 : decode cL_law 498 = .ok (.iconst 1, 1) := by decide +kernel
theorem dL_law_499 : decode cL_law 499 = .ok (.iadd, 1) := by decide +kernel
theorem dL_law_500 : decode cL_law 500 = .ok (.iaload, 1) := by decide +kernel
theorem dL_law_501 : decode cL_law 501 = .ok (.aload_n 0, 1) := by decide +kernel
theorem dL_law_502 : decode cL_law 502 = .ok (.iload 4, 2) := by decide +kernel
theorem dL_law_504 : decode cL_law 504 = .ok (.iconst 2, 1) := by decide +kernel
theorem dL_law_505 : decode cL_law 505 = .ok (.iadd, 1) := by decide +kernel
theorem dL_law_506 : decode cL_law 506 = .ok (.iaload, 1) := by decide +kernel
theorem dL_law_507 : decode cL_law 507 = .ok (.aload_n 0, 1) := by decide +kernel
theorem dL_law_508 : decode cL_law 508 = .ok (.iload 4, 2) := by decide +kernel
theorem dL_law_510 : decode cL_law 510 = .ok (.iconst 3, 1) := by decide +kernel
theorem dL_law_511 : decode cL_law 511 = .ok (.iadd, 1) := by decide +kernel
theorem dL_law_512 : decode cL_law 512 = .ok (.iaload, 1) := by decide +kernel
theorem dL_law_513 : decode cL_law 513 = .ok (.invokevirtual 67, 3) := by decide +kernel
theorem dL_law_516 : decode cL_law 516 = .ok (.istore 6, 2) := by decide +kernel
theorem dL_law_518 : decode cL_law 518 = .ok (.aload_n 2, 1) := by decide +kernel
theorem dL_law_519 : decode cL_law 519 = .ok (.invokevirtual 48, 3) := by decide +kernel
theorem dL_law_522 : decode cL_law 522 = .ok (.iload 5, 2) := by decide +kernel
theorem dL_law_524 : decode cL_law 524 = .ok (.if_icmp .eq 5, 3) := by decide +kernel
theorem dL_law_527 : decode cL_law 527 = .ok (.iconst 0, 1) := by decide +kernel
theorem dL_law_528 : decode cL_law 528 = .ok (.ireturn, 1) := by decide +kernel
theorem dL_law_529 : decode cL_law 529 = .ok (.iload 5, 2) := by decide +kernel
theorem dL_law_531 : decode cL_law 531 = .ok (.ifCond .ne 15, 3) := by decide +kernel
theorem dL_law_534 : decode cL_law 534 = .ok (.aload_n 3, 1) := by decide +kernel
theorem dL_law_535 : decode cL_law 535 = .ok (.iconst 0, 1) := by decide +kernel
theorem dL_law_536 : decode cL_law 536 = .ok (.laload, 1) := by decide +kernel
theorem dL_law_537 : decode cL_law 537 = .ok (.iload 6, 2) := by decide +kernel
theorem dL_law_539 : decode cL_law 539 = .ok (.i2l, 1) := by decide +kernel
theorem dL_law_540 : decode cL_law 540 = .ok (.lcmp, 1) := by decide +kernel
theorem dL_law_541 : decode cL_law 541 = .ok (.ifCond .eq 5, 3) := by decide +kernel
theorem dL_law_544 : decode cL_law 544 = .ok (.iconst 0, 1) := by decide +kernel
theorem dL_law_545 : decode cL_law 545 = .ok (.ireturn, 1) := by decide +kernel
theorem dL_law_546 : decode cL_law 546 = .ok (.goto 619, 3) := by decide +kernel
theorem dL_law_549 : decode cL_law 549 = .ok (.aload_n 1, 1) := by decide +kernel
theorem dL_law_550 : decode cL_law 550 = .ok (.aload_n 0, 1) := by decide +kernel
theorem dL_law_551 : decode cL_law 551 = .ok (.iload 4, 2) := by decide +kernel
theorem dL_law_553 : decode cL_law 553 = .ok (.iconst 1, 1) := by decide +kernel
theorem dL_law_554 : decode cL_law 554 = .ok (.iadd, 1) := by decide +kernel
theorem dL_law_555 : decode cL_law 555 = .ok (.iaload, 1) := by decide +kernel
theorem dL_law_556 : decode cL_law 556 = .ok (.aload_n 0, 1) := by decide +kernel
theorem dL_law_557 : decode cL_law 557 = .ok (.iload 4, 2) := by decide +kernel
theorem dL_law_559 : decode cL_law 559 = .ok (.iconst 2, 1) := by decide +kernel
theorem dL_law_560 : decode cL_law 560 = .ok (.iadd, 1) := by decide +kernel
theorem dL_law_561 : decode cL_law 561 = .ok (.iaload, 1) := by decide +kernel
theorem dL_law_562 : decode cL_law 562 = .ok (.aload_n 0, 1) := by decide +kernel
theorem dL_law_563 : decode cL_law 563 = .ok (.iload 4, 2) := by decide +kernel
theorem dL_law_565 : decode cL_law 565 = .ok (.iconst 3, 1) := by decide +kernel
theorem dL_law_566 : decode cL_law 566 = .ok (.iadd, 1) := by decide +kernel
theorem dL_law_567 : decode cL_law 567 = .ok (.iaload, 1) := by decide +kernel
theorem dL_law_568 : decode cL_law 568 = .ok (.i2l, 1) := by decide +kernel
theorem dL_law_569 : decode cL_law 569 = .ok (.bipush 32, 2) := by decide +kernel
theorem dL_law_571 : decode cL_law 571 = .ok (.lshl, 1) := by decide +kernel
theorem dL_law_572 : decode cL_law 572 = .ok (.aload_n 0, 1) := by decide +kernel
theorem dL_law_573 : decode cL_law 573 = .ok (.iload 4, 2) := by decide +kernel
theorem dL_law_575 : decode cL_law 575 = .ok (.iconst 4, 1) := by decide +kernel
theorem dL_law_576 : decode cL_law 576 = .ok (.iadd, 1) := by decide +kernel
theorem dL_law_577 : decode cL_law 577 = .ok (.iaload, 1) := by decide +kernel
theorem dL_law_578 : decode cL_law 578 = .ok (.i2l, 1) := by decide +kernel
theorem dL_law_579 : decode cL_law 579 = .ok (.ldc2_w 33, 3) := by decide +kernel
theorem dL_law_582 : decode cL_law 582 = .ok (.land, 1) := by decide +kernel
theorem dL_law_583 : decode cL_law 583 = .ok (.lor, 1) := by decide +kernel
theorem dL_law_584 : decode cL_law 584 = .ok (.aload_n 0, 1) := by decide +kernel
theorem dL_law_585 : decode cL_law 585 = .ok (.iload 4, 2) := by decide +kernel
theorem dL_law_587 : decode cL_law 587 = .ok (.iconst 5, 1) := by decide +kernel
theorem dL_law_588 : decode cL_law 588 = .ok (.iadd, 1) := by decide +kernel
theorem dL_law_589 : decode cL_law 589 = .ok (.iaload, 1) := by decide +kernel
theorem dL_law_590 : decode cL_law 590 = .ok (.i2l, 1) := by decide +kernel
theorem dL_law_591 : decode cL_law 591 = .ok (.bipush 32, 2) := by decide +kernel
theorem dL_law_593 : decode cL_law 593 = .ok (.lshl, 1) := by decide +kernel
theorem dL_law_594 : decode cL_law 594 = .ok (.aload_n 0, 1) := by decide +kernel
theorem dL_law_595 : decode cL_law 595 = .ok (.iload 4, 2) := by decide +kernel
theorem dL_law_597 : decode cL_law 597 = .ok (.bipush 6, 2) := by decide +kernel
theorem dL_law_599 : decode cL_law 599 = .ok (.iadd, 1) := by decide +kernel
theorem dL_law_600 : decode cL_law 600 = .ok (.iaload, 1) := by decide +kernel
theorem dL_law_601 : decode cL_law 601 = .ok (.i2l, 1) := by decide +kernel
theorem dL_law_602 : decode cL_law 602 = .ok (.ldc2_w 33, 3) := by decide +kernel
theorem dL_law_605 : decode cL_law 605 = .ok (.land, 1) := by decide +kernel
theorem dL_law_606 : decode cL_law 606 = .ok (.lor, 1) := by decide +kernel
theorem dL_law_607 : decode cL_law 607 = .ok (.invokevirtual 68, 3) := by decide +kernel
theorem dL_law_610 : decode cL_law 610 = .ok (.aload_n 2, 1) := by decide +kernel
theorem dL_law_611 : decode cL_law 611 = .ok (.aload_n 0, 1) := by decide +kernel
theorem dL_law_612 : decode cL_law 612 = .ok (.iload 4, 2) := by decide +kernel
theorem dL_law_614 : decode cL_law 614 = .ok (.iconst 1, 1) := by decide +kernel
theorem dL_law_615 : decode cL_law 615 = .ok (.iadd, 1) := by decide +kernel
theorem dL_law_616 : decode cL_law 616 = .ok (.iaload, 1) := by decide +kernel
theorem dL_law_617 : decode cL_law 617 = .ok (.aload_n 0, 1) := by decide +kernel
theorem dL_law_618 : decode cL_law 618 = .ok (.iload 4, 2) := by decide +kernel
theorem dL_law_620 : decode cL_law 620 = .ok (.iconst 2, 1) := by decide +kernel
theorem dL_law_621 : decode cL_law 621 = .ok (.iadd, 1) := by decide +kernel
theorem dL_law_622 : decode cL_law 622 = .ok (.iaload, 1) := by decide +kernel
theorem dL_law_623 : decode cL_law 623 = .ok (.aload_n 0, 1) := by decide +kernel
theorem dL_law_624 : decode cL_law 624 = .ok (.iload 4, 2) := by decide +kernel
theorem dL_law_626 : decode cL_law 626 = .ok (.iconst 3, 1) := by decide +kernel
theorem dL_law_627 : decode cL_law 627 = .ok (.iadd, 1) := by decide +kernel
theorem dL_law_628 : decode cL_law 628 = .ok (.iaload, 1) := by decide +kernel
theorem dL_law_629 : decode cL_law 629 = .ok (.i2l, 1) := by decide +kernel
theorem dL_law_630 : decode cL_law 630 = .ok (.bipush 32, 2) := by decide +kernel
theorem dL_law_632 : decode cL_law 632 = .ok (.lshl, 1) := by decide +kernel
theorem dL_law_633 : decode cL_law 633 = .ok (.aload_n 0, 1) := by decide +kernel
theorem dL_law_634 : decode cL_law 634 = .ok (.iload 4, 2) := by decide +kernel
theorem dL_law_636 : decode cL_law 636 = .ok (.iconst 4, 1) := by decide +kernel
theorem dL_law_637 : decode cL_law 637 = .ok (.iadd, 1) := by decide +kernel
theorem dL_law_638 : decode cL_law 638 = .ok (.iaload, 1) := by decide +kernel
theorem dL_law_639 : decode cL_law 639 = .ok (.i2l, 1) := by decide +kernel
theorem dL_law_640 : decode cL_law 640 = .ok (.ldc2_w 33, 3) := by decide +kernel
theorem dL_law_643 : decode cL_law 643 = .ok (.land, 1) := by decide +kernel
theorem dL_law_644 : decode cL_law 644 = .ok (.lor, 1) := by decide +kernel
theorem dL_law_645 : decode cL_law 645 = .ok (.aload_n 0, 1) := by decide +kernel
theorem dL_law_646 : decode cL_law 646 = .ok (.iload 4, 2) := by decide +kernel
theorem dL_law_648 : decode cL_law 648 = .ok (.iconst 5, 1) := by decide +kernel
theorem dL_law_649 : decode cL_law 649 = .ok (.iadd, 1) := by decide +kernel
theorem dL_law_650 : decode cL_law 650 = .ok (.iaload, 1) := by decide +kernel
theorem dL_law_651 : decode cL_law 651 = .ok (.i2l, 1) := by decide +kernel
theorem dL_law_652 : decode cL_law 652 = .ok (.bipush 32, 2) := by decide +kernel
theorem dL_law_654 : decode cL_law 654 = .ok (.lshl, 1) := by decide +kernel
theorem dL_law_655 : decode cL_law 655 = .ok (.aload_n 0, 1) := by decide +kernel
theorem dL_law_656 : decode cL_law 656 = .ok (.iload 4, 2) := by decide +kernel
theorem dL_law_658 : decode cL_law 658 = .ok (.bipush 6, 2) := by decide +kernel
theorem dL_law_660 : decode cL_law 660 = .ok (.iadd, 1) := by decide +kernel
theorem dL_law_661 : decode cL_law 661 = .ok (.iaload, 1) := by decide +kernel
theorem dL_law_662 : decode cL_law 662 = .ok (.i2l, 1) := by decide +kernel
theorem dL_law_663 : decode cL_law 663 = .ok (.ldc2_w 33, 3) := by decide +kernel
theorem dL_law_666 : decode cL_law 666 = .ok (.land, 1) := by decide +kernel
theorem dL_law_667 : decode cL_law 667 = .ok (.lor, 1) := by decide +kernel
theorem dL_law_668 : decode cL_law 668 = .ok (.invokevirtual 72, 3) := by decide +kernel
theorem dL_law_671 : decode cL_law 671 = .ok (.if_icmp .eq 494, 3) := by decide +kernel
theorem dL_law_674 : decode cL_law 674 = .ok (.iconst 0, 1) := by decide +kernel
theorem dL_law_675 : decode cL_law 675 = .ok (.ireturn, 1) := by decide +kernel
theorem dL_law_676 : decode cL_law 676 = .ok (.aload_n 1, 1) := by decide +kernel
theorem dL_law_677 : decode cL_law 677 = .ok (.aload_n 0, 1) := by decide +kernel
theorem dL_law_678 : decode cL_law 678 = .ok (.iload 4, 2) := by decide +kernel
theorem dL_law_680 : decode cL_law 680 = .ok (.iconst 1, 1) := by decide +kernel
theorem dL_law_681 : decode cL_law 681 = .ok (.iadd, 1) := by decide +kernel
theorem dL_law_682 : decode cL_law 682 = .ok (.iaload, 1) := by decide +kernel
theorem dL_law_683 : decode cL_law 683 = .ok (.aload_n 0, 1) := by decide +kernel
theorem dL_law_684 : decode cL_law 684 = .ok (.iload 4, 2) := by decide +kernel
theorem dL_law_686 : decode cL_law 686 = .ok (.iconst 2, 1) := by decide +kernel
theorem dL_law_687 : decode cL_law 687 = .ok (.iadd, 1) := by decide +kernel
theorem dL_law_688 : decode cL_law 688 = .ok (.iaload, 1) := by decide +kernel
theorem dL_law_689 : decode cL_law 689 = .ok (.aload_n 0, 1) := by decide +kernel
theorem dL_law_690 : decode cL_law 690 = .ok (.iload 4, 2) := by decide +kernel
theorem dL_law_692 : decode cL_law 692 = .ok (.iconst 3, 1) := by decide +kernel
theorem dL_law_693 : decode cL_law 693 = .ok (.iadd, 1) := by decide +kernel
theorem dL_law_694 : decode cL_law 694 = .ok (.iaload, 1) := by decide +kernel
theorem dL_law_695 : decode cL_law 695 = .ok (.invokevirtual 73, 3) := by decide +kernel
theorem dL_law_698 : decode cL_law 698 = .ok (.aload_n 2, 1) := by decide +kernel
theorem dL_law_699 : decode cL_law 699 = .ok (.aload_n 0, 1) := by decide +kernel
theorem dL_law_700 : decode cL_law 700 = .ok (.iload 4, 2) := by decide +kernel
theorem dL_law_702 : decode cL_law 702 = .ok (.iconst 1, 1) := by decide +kernel
theorem dL_law_703 : decode cL_law 703 = .ok (.iadd, 1) := by decide +kernel
theorem dL_law_704 : decode cL_law 704 = .ok (.iaload, 1) := by decide +kernel
theorem dL_law_705 : decode cL_law 705 = .ok (.aload_n 0, 1) := by decide +kernel
theorem dL_law_706 : decode cL_law 706 = .ok (.iload 4, 2) := by decide +kernel
theorem dL_law_708 : decode cL_law 708 = .ok (.iconst 2, 1) := by decide +kernel
theorem dL_law_709 : decode cL_law 709 = .ok (.iadd, 1) := by decide +kernel
theorem dL_law_710 : decode cL_law 710 = .ok (.iaload, 1) := by decide +kernel
theorem dL_law_711 : decode cL_law 711 = .ok (.aload_n 0, 1) := by decide +kernel
theorem dL_law_712 : decode cL_law 712 = .ok (.iload 4, 2) := by decide +kernel
theorem dL_law_714 : decode cL_law 714 = .ok (.iconst 3, 1) := by decide +kernel
theorem dL_law_715 : decode cL_law 715 = .ok (.iadd, 1) := by decide +kernel
theorem dL_law_716 : decode cL_law 716 = .ok (.iaload, 1) := by decide +kernel
theorem dL_law_717 : decode cL_law 717 = .ok (.invokevirtual 76, 3) := by decide +kernel
theorem dL_law_720 : decode cL_law 720 = .ok (.if_icmp .eq 445, 3) := by decide +kernel
theorem dL_law_723 : decode cL_law 723 = .ok (.iconst 0, 1) := by decide +kernel
theorem dL_law_724 : decode cL_law 724 = .ok (.ireturn, 1) := by decide +kernel
theorem dL_law_725 : decode cL_law 725 = .ok (.aload_n 1, 1) := by decide +kernel
theorem dL_law_726 : decode cL_law 726 = .ok (.aload_n 0, 1) := by decide +kernel
theorem dL_law_727 : decode cL_law 727 = .ok (.iload 4, 2) := by decide +kernel
theorem dL_law_729 : decode cL_law 729 = .ok (.iconst 1, 1) := by decide +kernel
theorem dL_law_730 : decode cL_law 730 = .ok (.iadd, 1) := by decide +kernel
theorem dL_law_731 : decode cL_law 731 = .ok (.iaload, 1) := by decide +kernel
theorem dL_law_732 : decode cL_law 732 = .ok (.aload_n 0, 1) := by decide +kernel
theorem dL_law_733 : decode cL_law 733 = .ok (.iload 4, 2) := by decide +kernel
theorem dL_law_735 : decode cL_law 735 = .ok (.iconst 2, 1) := by decide +kernel
theorem dL_law_736 : decode cL_law 736 = .ok (.iadd, 1) := by decide +kernel
theorem dL_law_737 : decode cL_law 737 = .ok (.iaload, 1) := by decide +kernel
theorem dL_law_738 : decode cL_law 738 = .ok (.invokevirtual 77, 3) := by decide +kernel
theorem dL_law_741 : decode cL_law 741 = .ok (.aload_n 2, 1) := by decide +kernel
theorem dL_law_742 : decode cL_law 742 = .ok (.aload_n 0, 1) := by decide +kernel
theorem dL_law_743 : decode cL_law 743 = .ok (.iload 4, 2) := by decide +kernel
theorem dL_law_745 : decode cL_law 745 = .ok (.iconst 1, 1) := by decide +kernel
theorem dL_law_746 : decode cL_law 746 = .ok (.iadd, 1) := by decide +kernel
theorem dL_law_747 : decode cL_law 747 = .ok (.iaload, 1) := by decide +kernel
theorem dL_law_748 : decode cL_law 748 = .ok (.aload_n 0, 1) := by decide +kernel
theorem dL_law_749 : decode cL_law 749 = .ok (.iload 4, 2) := by decide +kernel
theorem dL_law_751 : decode cL_law 751 = .ok (.iconst 2, 1) := by decide +kernel
theorem dL_law_752 : decode cL_law 752 = .ok (.iadd, 1) := by decide +kernel
theorem dL_law_753 : decode cL_law 753 = .ok (.iaload, 1) := by decide +kernel
theorem dL_law_754 : decode cL_law 754 = .ok (.invokevirtual 80, 3) := by decide +kernel
theorem dL_law_757 : decode cL_law 757 = .ok (.if_icmp .eq 408, 3) := by decide +kernel
theorem dL_law_760 : decode cL_law 760 = .ok (.iconst 0, 1) := by decide +kernel
theorem dL_law_761 : decode cL_law 761 = .ok (.ireturn, 1) := by decide +kernel
theorem dL_law_762 : decode cL_law 762 = .ok (.aload_n 1, 1) := by decide +kernel
theorem dL_law_763 : decode cL_law 763 = .ok (.aload_n 0, 1) := by decide +kernel
theorem dL_law_764 : decode cL_law 764 = .ok (.iload 4, 2) := by decide +kernel
theorem dL_law_766 : decode cL_law 766 = .ok (.iconst 1, 1) := by decide +kernel
theorem dL_law_767 : decode cL_law 767 = .ok (.iadd, 1) := by decide +kernel
theorem dL_law_768 : decode cL_law 768 = .ok (.iaload, 1) := by decide +kernel
theorem dL_law_769 : decode cL_law 769 = .ok (.invokevirtual 81, 3) := by decide +kernel
theorem dL_law_772 : decode cL_law 772 = .ok (.aload_n 2, 1) := by decide +kernel
theorem dL_law_773 : decode cL_law 773 = .ok (.aload_n 0, 1) := by decide +kernel
theorem dL_law_774 : decode cL_law 774 = .ok (.iload 4, 2) := by decide +kernel
theorem dL_law_776 : decode cL_law 776 = .ok (.iconst 1, 1) := by decide +kernel
theorem dL_law_777 : decode cL_law 777 = .ok (.iadd, 1) := by decide +kernel
theorem dL_law_778 : decode cL_law 778 = .ok (.iaload, 1) := by decide +kernel
theorem dL_law_779 : decode cL_law 779 = .ok (.invokevirtual 85, 3) := by decide +kernel
theorem dL_law_782 : decode cL_law 782 = .ok (.if_icmp .eq 383, 3) := by decide +kernel
theorem dL_law_785 : decode cL_law 785 = .ok (.iconst 0, 1) := by decide +kernel
theorem dL_law_786 : decode cL_law 786 = .ok (.ireturn, 1) := by decide +kernel
theorem dL_law_787 : decode cL_law 787 = .ok (.aload_n 1, 1) := by decide +kernel
theorem dL_law_788 : decode cL_law 788 = .ok (.invokevirtual 86, 3) := by decide +kernel
theorem dL_law_791 : decode cL_law 791 = .ok (.aload_n 2, 1) := by decide +kernel
theorem dL_law_792 : decode cL_law 792 = .ok (.invokevirtual 89, 3) := by decide +kernel
theorem dL_law_795 : decode cL_law 795 = .ok (.if_icmp .eq 370, 3) := by decide +kernel
theorem dL_law_798 : decode cL_law 798 = .ok (.iconst 0, 1) := by decide +kernel
theorem dL_law_799 : decode cL_law 799 = .ok (.ireturn, 1) := by decide +kernel
theorem dL_law_800 : decode cL_law 800 = .ok (.aload_n 1, 1) := by decide +kernel
theorem dL_law_801 : decode cL_law 801 = .ok (.aload_n 0, 1) := by decide +kernel
theorem dL_law_802 : decode cL_law 802 = .ok (.iload 4, 2) := by decide +kernel
theorem dL_law_804 : decode cL_law 804 = .ok (.iconst 1, 1) := by decide +kernel
theorem dL_law_805 : decode cL_law 805 = .ok (.iadd, 1) := by decide +kernel
theorem dL_law_806 : decode cL_law 806 = .ok (.iaload, 1) := by decide +kernel
theorem dL_law_807 : decode cL_law 807 = .ok (.invokevirtual 90, 3) := by decide +kernel
theorem dL_law_810 : decode cL_law 810 = .ok (.aload_n 2, 1) := by decide +kernel
theorem dL_law_811 : decode cL_law 811 = .ok (.aload_n 0, 1) := by decide +kernel
theorem dL_law_812 : decode cL_law 812 = .ok (.iload 4, 2) := by decide +kernel
theorem dL_law_814 : decode cL_law 814 = .ok (.iconst 1, 1) := by decide +kernel
theorem dL_law_815 : decode cL_law 815 = .ok (.iadd, 1) := by decide +kernel
theorem dL_law_816 : decode cL_law 816 = .ok (.iaload, 1) := by decide +kernel
theorem dL_law_817 : decode cL_law 817 = .ok (.invokevirtual 93, 3) := by decide +kernel
theorem dL_law_820 : decode cL_law 820 = .ok (.if_icmp .eq 345, 3) := by decide +kernel
theorem dL_law_823 : decode cL_law 823 = .ok (.iconst 0, 1) := by decide +kernel
theorem dL_law_824 : decode cL_law 824 = .ok (.ireturn, 1) := by decide +kernel
theorem dL_law_825 : decode cL_law 825 = .ok (.aload_n 1, 1) := by decide +kernel
theorem dL_law_826 : decode cL_law 826 = .ok (.aload_n 0, 1) := by decide +kernel
theorem dL_law_827 : decode cL_law 827 = .ok (.iload 4, 2) := by decide +kernel
theorem dL_law_829 : decode cL_law 829 = .ok (.iconst 1, 1) := by decide +kernel
theorem dL_law_830 : decode cL_law 830 = .ok (.iadd, 1) := by decide +kernel
theorem dL_law_831 : decode cL_law 831 = .ok (.iaload, 1) := by decide +kernel
theorem dL_law_832 : decode cL_law 832 = .ok (.aload_n 0, 1) := by decide +kernel
theorem dL_law_833 : decode cL_law 833 = .ok (.iload 4, 2) := by decide +kernel
theorem dL_law_835 : decode cL_law 835 = .ok (.iconst 2, 1) := by decide +kernel
theorem dL_law_836 : decode cL_law 836 = .ok (.iadd, 1) := by decide +kernel
theorem dL_law_837 : decode cL_law 837 = .ok (.iaload, 1) := by decide +kernel
theorem dL_law_838 : decode cL_law 838 = .ok (.invokevirtual 94, 3) := by decide +kernel
theorem dL_law_841 : decode cL_law 841 = .ok (.aload_n 2, 1) := by decide +kernel
theorem dL_law_842 : decode cL_law 842 = .ok (.aload_n 0, 1) := by decide +kernel
theorem dL_law_843 : decode cL_law 843 = .ok (.iload 4, 2) := by decide +kernel
theorem dL_law_845 : decode cL_law 845 = .ok (.iconst 1, 1) := by decide +kernel
theorem dL_law_846 : decode cL_law 846 = .ok (.iadd, 1) := by decide +kernel
theorem dL_law_847 : decode cL_law 847 = .ok (.iaload, 1) := by decide +kernel
theorem dL_law_848 : decode cL_law 848 = .ok (.aload_n 0, 1) := by decide +kernel
theorem dL_law_849 : decode cL_law 849 = .ok (.iload 4, 2) := by decide +kernel
theorem dL_law_851 : decode cL_law 851 = .ok (.iconst 2, 1) := by decide +kernel
theorem dL_law_852 : decode cL_law 852 = .ok (.iadd, 1) := by decide +kernel
theorem dL_law_853 : decode cL_law 853 = .ok (.iaload, 1) := by decide +kernel
theorem dL_law_854 : decode cL_law 854 = .ok (.invokevirtual 97, 3) := by decide +kernel
theorem dL_law_857 : decode cL_law 857 = .ok (.if_icmp .eq 308, 3) := by decide +kernel
theorem dL_law_860 : decode cL_law 860 = .ok (.iconst 0, 1) := by decide +kernel
theorem dL_law_861 : decode cL_law 861 = .ok (.ireturn, 1) := by decide +kernel
theorem dL_law_862 : decode cL_law 862 = .ok (.aload_n 1, 1) := by decide +kernel
theorem dL_law_863 : decode cL_law 863 = .ok (.aload_n 0, 1) := by decide +kernel
theorem dL_law_864 : decode cL_law 864 = .ok (.iload 4, 2) := by decide +kernel
theorem dL_law_866 : decode cL_law 866 = .ok (.iconst 1, 1) := by decide +kernel
theorem dL_law_867 : decode cL_law 867 = .ok (.iadd, 1) := by decide +kernel
theorem dL_law_868 : decode cL_law 868 = .ok (.iaload, 1) := by decide +kernel
theorem dL_law_869 : decode cL_law 869 = .ok (.invokevirtual 98, 3) := by decide +kernel
theorem dL_law_872 : decode cL_law 872 = .ok (.aload_n 2, 1) := by decide +kernel
theorem dL_law_873 : decode cL_law 873 = .ok (.aload_n 0, 1) := by decide +kernel
theorem dL_law_874 : decode cL_law 874 = .ok (.iload 4, 2) := by decide +kernel
theorem dL_law_876 : decode cL_law 876 = .ok (.iconst 1, 1) := by decide +kernel
theorem dL_law_877 : decode cL_law 877 = .ok (.iadd, 1) := by decide +kernel
theorem dL_law_878 : decode cL_law 878 = .ok (.iaload, 1) := by decide +kernel
theorem dL_law_879 : decode cL_law 879 = .ok (.invokevirtual 101, 3) := by decide +kernel
theorem dL_law_882 : decode cL_law 882 = .ok (.if_icmp .eq 283, 3) := by decide +kernel
theorem dL_law_885 : decode cL_law 885 = .ok (.iconst 0, 1) := by decide +kernel
theorem dL_law_886 : decode cL_law 886 = .ok (.ireturn, 1) := by decide +kernel
theorem dL_law_887 : decode cL_law 887 = .ok (.aload_n 1, 1) := by decide +kernel
theorem dL_law_888 : decode cL_law 888 = .ok (.aload_n 0, 1) := by decide +kernel
theorem dL_law_889 : decode cL_law 889 = .ok (.iload 4, 2) := by decide +kernel
theorem dL_law_891 : decode cL_law 891 = .ok (.iconst 1, 1) := by decide +kernel
theorem dL_law_892 : decode cL_law 892 = .ok (.iadd, 1) := by decide +kernel
theorem dL_law_893 : decode cL_law 893 = .ok (.iaload, 1) := by decide +kernel
theorem dL_law_894 : decode cL_law 894 = .ok (.invokevirtual 102, 3) := by decide +kernel
theorem dL_law_897 : decode cL_law 897 = .ok (.aload_n 2, 1) := by decide +kernel
theorem dL_law_898 : decode cL_law 898 = .ok (.aload_n 0, 1) := by decide +kernel
theorem dL_law_899 : decode cL_law 899 = .ok (.iload 4, 2) := by decide +kernel
theorem dL_law_901 : decode cL_law 901 = .ok (.iconst 1, 1) := by decide +kernel
theorem dL_law_902 : decode cL_law 902 = .ok (.iadd, 1) := by decide +kernel
theorem dL_law_903 : decode cL_law 903 = .ok (.iaload, 1) := by decide +kernel
theorem dL_law_904 : decode cL_law 904 = .ok (.invokevirtual 105, 3) := by decide +kernel
theorem dL_law_907 : decode cL_law 907 = .ok (.if_icmp .eq 258, 3) := by decide +kernel
theorem dL_law_910 : decode cL_law 910 = .ok (.iconst 0, 1) := by decide +kernel
theorem dL_law_911 : decode cL_law 911 = .ok (.ireturn, 1) := by decide +kernel
theorem dL_law_912 : decode cL_law 912 = .ok (.aload_n 1, 1) := by decide +kernel
theorem dL_law_913 : decode cL_law 913 = .ok (.aload_n 0, 1) := by decide +kernel
theorem dL_law_914 : decode cL_law 914 = .ok (.iload 4, 2) := by decide +kernel
theorem dL_law_916 : decode cL_law 916 = .ok (.iconst 1, 1) := by decide +kernel
theorem dL_law_917 : decode cL_law 917 = .ok (.iadd, 1) := by decide +kernel
theorem dL_law_918 : decode cL_law 918 = .ok (.iaload, 1) := by decide +kernel
theorem dL_law_919 : decode cL_law 919 = .ok (.aload_n 0, 1) := by decide +kernel
theorem dL_law_920 : decode cL_law 920 = .ok (.iload 4, 2) := by decide +kernel
theorem dL_law_922 : decode cL_law 922 = .ok (.iconst 2, 1) := by decide +kernel
theorem dL_law_923 : decode cL_law 923 = .ok (.iadd, 1) := by decide +kernel
theorem dL_law_924 : decode cL_law 924 = .ok (.iaload, 1) := by decide +kernel
theorem dL_law_925 : decode cL_law 925 = .ok (.invokevirtual 106, 3) := by decide +kernel
theorem dL_law_928 : decode cL_law 928 = .ok (.aload_n 2, 1) := by decide +kernel
theorem dL_law_929 : decode cL_law 929 = .ok (.aload_n 0, 1) := by decide +kernel
theorem dL_law_930 : decode cL_law 930 = .ok (.iload 4, 2) := by decide +kernel
theorem dL_law_932 : decode cL_law 932 = .ok (.iconst 1, 1) := by decide +kernel
theorem dL_law_933 : decode cL_law 933 = .ok (.iadd, 1) := by decide +kernel
theorem dL_law_934 : decode cL_law 934 = .ok (.iaload, 1) := by decide +kernel
theorem dL_law_935 : decode cL_law 935 = .ok (.aload_n 0, 1) := by decide +kernel
theorem dL_law_936 : decode cL_law 936 = .ok (.iload 4, 2) := by decide +kernel
theorem dL_law_938 : decode cL_law 938 = .ok (.iconst 2, 1) := by decide +kernel
theorem dL_law_939 : decode cL_law 939 = .ok (.iadd, 1) := by decide +kernel
theorem dL_law_940 : decode cL_law 940 = .ok (.iaload, 1) := by decide +kernel
theorem dL_law_941 : decode cL_law 941 = .ok (.invokevirtual 109, 3) := by decide +kernel
theorem dL_law_944 : decode cL_law 944 = .ok (.if_icmp .eq 221, 3) := by decide +kernel
theorem dL_law_947 : decode cL_law 947 = .ok (.iconst 0, 1) := by decide +kernel
theorem dL_law_948 : decode cL_law 948 = .ok (.ireturn, 1) := by decide +kernel
theorem dL_law_949 : decode cL_law 949 = .ok (.aload_n 1, 1) := by decide +kernel
theorem dL_law_950 : decode cL_law 950 = .ok (.aload_n 0, 1) := by decide +kernel
theorem dL_law_951 : decode cL_law 951 = .ok (.iload 4, 2) := by decide +kernel
theorem dL_law_953 : decode cL_law 953 = .ok (.iconst 1, 1) := by decide +kernel
theorem dL_law_954 : decode cL_law 954 = .ok (.iadd, 1) := by decide +kernel
theorem dL_law_955 : decode cL_law 955 = .ok (.iaload, 1) := by decide +kernel
theorem dL_law_956 : decode cL_law 956 = .ok (.aload_n 0, 1) := by decide +kernel
theorem dL_law_957 : decode cL_law 957 = .ok (.iload 4, 2) := by decide +kernel
theorem dL_law_959 : decode cL_law 959 = .ok (.iconst 2, 1) := by decide +kernel
theorem dL_law_960 : decode cL_law 960 = .ok (.iadd, 1) := by decide +kernel
theorem dL_law_961 : decode cL_law 961 = .ok (.iaload, 1) := by decide +kernel
theorem dL_law_962 : decode cL_law 962 = .ok (.invokevirtual 110, 3) := by decide +kernel
theorem dL_law_965 : decode cL_law 965 = .ok (.aload_n 2, 1) := by decide +kernel
theorem dL_law_966 : decode cL_law 966 = .ok (.aload_n 0, 1) := by decide +kernel
theorem dL_law_967 : decode cL_law 967 = .ok (.iload 4, 2) := by decide +kernel
theorem dL_law_969 : decode cL_law 969 = .ok (.iconst 1, 1) := by decide +kernel
theorem dL_law_970 : decode cL_law 970 = .ok (.iadd, 1) := by decide +kernel
theorem dL_law_971 : decode cL_law 971 = .ok (.iaload, 1) := by decide +kernel
theorem dL_law_972 : decode cL_law 972 = .ok (.aload_n 0, 1) := by decide +kernel
theorem dL_law_973 : decode cL_law 973 = .ok (.iload 4, 2) := by decide +kernel
theorem dL_law_975 : decode cL_law 975 = .ok (.iconst 2, 1) := by decide +kernel
theorem dL_law_976 : decode cL_law 976 = .ok (.iadd, 1) := by decide +kernel
theorem dL_law_977 : decode cL_law 977 = .ok (.iaload, 1) := by decide +kernel
theorem dL_law_978 : decode cL_law 978 = .ok (.invokevirtual 113, 3) := by decide +kernel
theorem dL_law_981 : decode cL_law 981 = .ok (.if_icmp .eq 184, 3) := by decide +kernel
theorem dL_law_984 : decode cL_law 984 = .ok (.iconst 0, 1) := by decide +kernel
theorem dL_law_985 : decode cL_law 985 = .ok (.ireturn, 1) := by decide +kernel
theorem dL_law_986 : decode cL_law 986 = .ok (.aload_n 1, 1) := by decide +kernel
theorem dL_law_987 : decode cL_law 987 = .ok (.aload_n 0, 1) := by decide +kernel
theorem dL_law_988 : decode cL_law 988 = .ok (.iload 4, 2) := by decide +kernel
theorem dL_law_990 : decode cL_law 990 = .ok (.iconst 1, 1) := by decide +kernel
theorem dL_law_991 : decode cL_law 991 = .ok (.iadd, 1) := by decide +kernel
theorem dL_law_992 : decode cL_law 992 = .ok (.iaload, 1) := by decide +kernel
theorem dL_law_993 : decode cL_law 993 = .ok (.invokevirtual 114, 3) := by decide +kernel
theorem dL_law_996 : decode cL_law 996 = .ok (.aload_n 2, 1) := by decide +kernel
theorem dL_law_997 : decode cL_law 997 = .ok (.aload_n 0, 1) := by decide +kernel
theorem dL_law_998 : decode cL_law 998 = .ok (.iload 4, 2) := by decide +kernel
theorem dL_law_1000 : decode cL_law 1000 = .ok (.iconst 1, 1) := by decide +kernel
theorem dL_law_1001 : decode cL_law 1001 = .ok (.iadd, 1) := by decide +kernel
theorem dL_law_1002 : decode cL_law 1002 = .ok (.iaload, 1) := by decide +kernel
theorem dL_law_1003 : decode cL_law 1003 = .ok (.invokevirtual 117, 3) := by decide +kernel
theorem dL_law_1006 : decode cL_law 1006 = .ok (.if_icmp .eq 159, 3) := by decide +kernel
theorem dL_law_1009 : decode cL_law 1009 = .ok (.iconst 0, 1) := by decide +kernel
theorem dL_law_1010 : decode cL_law 1010 = .ok (.ireturn, 1) := by decide +kernel
theorem dL_law_1011 : decode cL_law 1011 = .ok (.aload_n 1, 1) := by decide +kernel
theorem dL_law_1012 : decode cL_law 1012 = .ok (.invokevirtual 118, 3) := by decide +kernel
theorem dL_law_1015 : decode cL_law 1015 = .ok (.aload_n 2, 1) := by decide +kernel
theorem dL_law_1016 : decode cL_law 1016 = .ok (.invokevirtual 121, 3) := by decide +kernel
theorem dL_law_1019 : decode cL_law 1019 = .ok (.if_icmp .eq 146, 3) := by decide +kernel
theorem dL_law_1022 : decode cL_law 1022 = .ok (.iconst 0, 1) := by decide +kernel
theorem dL_law_1023 : decode cL_law 1023 = .ok (.ireturn, 1) := by decide +kernel
theorem dL_law_1024 : decode cL_law 1024 = .ok (.aload_n 1, 1) := by decide +kernel
theorem dL_law_1025 : decode cL_law 1025 = .ok (.invokevirtual 122, 3) := by decide +kernel
theorem dL_law_1028 : decode cL_law 1028 = .ok (.aload_n 2, 1) := by decide +kernel
theorem dL_law_1029 : decode cL_law 1029 = .ok (.invokevirtual 125, 3) := by decide +kernel
theorem dL_law_1032 : decode cL_law 1032 = .ok (.if_icmp .eq 133, 3) := by decide +kernel
theorem dL_law_1035 : decode cL_law 1035 = .ok (.iconst 0, 1) := by decide +kernel
theorem dL_law_1036 : decode cL_law 1036 = .ok (.ireturn, 1) := by decide +kernel
theorem dL_law_1037 : decode cL_law 1037 = .ok (.aload_n 1, 1) := by decide +kernel
theorem dL_law_1038 : decode cL_law 1038 = .ok (.aload_n 0, 1) := by decide +kernel
theorem dL_law_1039 : decode cL_law 1039 = .ok (.iload 4, 2) := by decide +kernel
theorem dL_law_1041 : decode cL_law 1041 = .ok (.iconst 1, 1) := by decide +kernel
theorem dL_law_1042 : decode cL_law 1042 = .ok (.iadd, 1) := by decide +kernel
theorem dL_law_1043 : decode cL_law 1043 = .ok (.iaload, 1) := by decide +kernel
theorem dL_law_1044 : decode cL_law 1044 = .ok (.aload_n 0, 1) := by decide +kernel
theorem dL_law_1045 : decode cL_law 1045 = .ok (.iload 4, 2) := by decide +kernel
theorem dL_law_1047 : decode cL_law 1047 = .ok (.iconst 2, 1) := by decide +kernel
theorem dL_law_1048 : decode cL_law 1048 = .ok (.iadd, 1) := by decide +kernel
theorem dL_law_1049 : decode cL_law 1049 = .ok (.iaload, 1) := by decide +kernel
theorem dL_law_1050 : decode cL_law 1050 = .ok (.aload_n 0, 1) := by decide +kernel
theorem dL_law_1051 : decode cL_law 1051 = .ok (.iload 4, 2) := by decide +kernel
theorem dL_law_1053 : decode cL_law 1053 = .ok (.iconst 3, 1) := by decide +kernel
theorem dL_law_1054 : decode cL_law 1054 = .ok (.iadd, 1) := by decide +kernel
theorem dL_law_1055 : decode cL_law 1055 = .ok (.iaload, 1) := by decide +kernel
theorem dL_law_1056 : decode cL_law 1056 = .ok (.ifCond .eq 7, 3) := by decide +kernel
theorem dL_law_1059 : decode cL_law 1059 = .ok (.iconst 1, 1) := by decide +kernel
theorem dL_law_1060 : decode cL_law 1060 = .ok (.goto 4, 3) := by decide +kernel
theorem dL_law_1063 : decode cL_law 1063 = .ok (.iconst 0, 1) := by decide +kernel
theorem dL_law_1064 : decode cL_law 1064 = .ok (.invokevirtual 126, 3) := by decide +kernel
theorem dL_law_1067 : decode cL_law 1067 = .ok (.aload_n 2, 1) := by decide +kernel
theorem dL_law_1068 : decode cL_law 1068 = .ok (.aload_n 0, 1) := by decide +kernel
theorem dL_law_1069 : decode cL_law 1069 = .ok (.iload 4, 2) := by decide +kernel
theorem dL_law_1071 : decode cL_law 1071 = .ok (.iconst 1, 1) := by decide +kernel
theorem dL_law_1072 : decode cL_law 1072 = .ok (.iadd, 1) := by decide +kernel
theorem dL_law_1073 : decode cL_law 1073 = .ok (.iaload, 1) := by decide +kernel
theorem dL_law_1074 : decode cL_law 1074 = .ok (.aload_n 0, 1) := by decide +kernel
theorem dL_law_1075 : decode cL_law 1075 = .ok (.iload 4, 2) := by decide +kernel
theorem dL_law_1077 : decode cL_law 1077 = .ok (.iconst 2, 1) := by decide +kernel
theorem dL_law_1078 : decode cL_law 1078 = .ok (.iadd, 1) := by decide +kernel
theorem dL_law_1079 : decode cL_law 1079 = .ok (.iaload, 1) := by decide +kernel
theorem dL_law_1080 : decode cL_law 1080 = .ok (.aload_n 0, 1) := by decide +kernel
theorem dL_law_1081 : decode cL_law 1081 = .ok (.iload 4, 2) := by decide +kernel
theorem dL_law_1083 : decode cL_law 1083 = .ok (.iconst 3, 1) := by decide +kernel
theorem dL_law_1084 : decode cL_law 1084 = .ok (.iadd, 1) := by decide +kernel
theorem dL_law_1085 : decode cL_law 1085 = .ok (.iaload, 1) := by decide +kernel
theorem dL_law_1086 : decode cL_law 1086 = .ok (.ifCond .eq 7, 3) := by decide +kernel
theorem dL_law_1089 : decode cL_law 1089 = .ok (.iconst 1, 1) := by decide +kernel
theorem dL_law_1090 : decode cL_law 1090 = .ok (.goto 4, 3) := by decide +kernel
theorem dL_law_1093 : decode cL_law 1093 = .ok (.iconst 0, 1) := by decide +kernel
theorem dL_law_1094 : decode cL_law 1094 = .ok (.invokevirtual 130, 3) := by decide +kernel
theorem dL_law_1097 : decode cL_law 1097 = .ok (.if_icmp .eq 68, 3) := by decide +kernel
theorem dL_law_1100 : decode cL_law 1100 = .ok (.iconst 0, 1) := by decide +kernel
theorem dL_law_1101 : decode cL_law 1101 = .ok (.ireturn, 1) := by decide +kernel
theorem dL_law_1102 : decode cL_law 1102 = .ok (.aload_n 1, 1) := by decide +kernel
theorem dL_law_1103 : decode cL_law 1103 = .ok (.aload_n 0, 1) := by decide +kernel
theorem dL_law_1104 : decode cL_law 1104 = .ok (.iload 4, 2) := by decide +kernel
theorem dL_law_1106 : decode cL_law 1106 = .ok (.iconst 1, 1) := by decide +kernel
theorem dL_law_1107 : decode cL_law 1107 = .ok (.iadd, 1) := by decide +kernel
theorem dL_law_1108 : decode cL_law 1108 = .ok (.iaload, 1) := by decide +kernel
theorem dL_law_1109 : decode cL_law 1109 = .ok (.invokevirtual 131, 3) := by decide +kernel
theorem dL_law_1112 : decode cL_law 1112 = .ok (.aload_n 2, 1) := by decide +kernel
theorem dL_law_1113 : decode cL_law 1113 = .ok (.aload_n 0, 1) := by decide +kernel
theorem dL_law_1114 : decode cL_law 1114 = .ok (.iload 4, 2) := by decide +kernel
theorem dL_law_1116 : decode cL_law 1116 = .ok (.iconst 1, 1) := by decide +kernel
theorem dL_law_1117 : decode cL_law 1117 = .ok (.iadd, 1) := by decide +kernel
theorem dL_law_1118 : decode cL_law 1118 = .ok (.iaload, 1) := by decide +kernel
theorem dL_law_1119 : decode cL_law 1119 = .ok (.invokevirtual 134, 3) := by decide +kernel
theorem dL_law_1122 : decode cL_law 1122 = .ok (.if_icmp .eq 43, 3) := by decide +kernel
theorem dL_law_1125 : decode cL_law 1125 = .ok (.iconst 0, 1) := by decide +kernel
theorem dL_law_1126 : decode cL_law 1126 = .ok (.ireturn, 1) := by decide +kernel
theorem dL_law_1127 : decode cL_law 1127 = .ok (.aload_n 1, 1) := by decide +kernel
theorem dL_law_1128 : decode cL_law 1128 = .ok (.aload_n 0, 1) := by decide +kernel
theorem dL_law_1129 : decode cL_law 1129 = .ok (.iload 4, 2) := by decide +kernel
theorem dL_law_1131 : decode cL_law 1131 = .ok (.iconst 1, 1) := by decide +kernel
theorem dL_law_1132 : decode cL_law 1132 = .ok (.iadd, 1) := by decide +kernel
theorem dL_law_1133 : decode cL_law 1133 = .ok (.iaload, 1) := by decide +kernel
theorem dL_law_1134 : decode cL_law 1134 = .ok (.invokevirtual 135, 3) := by decide +kernel
theorem dL_law_1137 : decode cL_law 1137 = .ok (.aload_n 2, 1) := by decide +kernel
theorem dL_law_1138 : decode cL_law 1138 = .ok (.aload_n 0, 1) := by decide +kernel
theorem dL_law_1139 : decode cL_law 1139 = .ok (.iload 4, 2) := by decide +kernel
theorem dL_law_1141 : decode cL_law 1141 = .ok (.iconst 1, 1) := by decide +kernel
theorem dL_law_1142 : decode cL_law 1142 = .ok (.iadd, 1) := by decide +kernel
theorem dL_law_1143 : decode cL_law 1143 = .ok (.iaload, 1) := by decide +kernel
theorem dL_law_1144 : decode cL_law 1144 = .ok (.invokevirtual 138, 3) := by decide +kernel
theorem dL_law_1147 : decode cL_law 1147 = .ok (.if_icmp .eq 18, 3) := by decide +kernel
theorem dL_law_1150 : decode cL_law 1150 = .ok (.iconst 0, 1) := by decide +kernel
theorem dL_law_1151 : decode cL_law 1151 = .ok (.ireturn, 1) := by decide +kernel
theorem dL_law_1152 : decode cL_law 1152 = .ok (.aload_n 1, 1) := by decide +kernel
theorem dL_law_1153 : decode cL_law 1153 = .ok (.invokevirtual 139, 3) := by decide +kernel
theorem dL_law_1156 : decode cL_law 1156 = .ok (.aload_n 2, 1) := by decide +kernel
theorem dL_law_1157 : decode cL_law 1157 = .ok (.invokevirtual 142, 3) := by decide +kernel
theorem dL_law_1160 : decode cL_law 1160 = .ok (.if_icmp .eq 5, 3) := by decide +kernel
theorem dL_law_1163 : decode cL_law 1163 = .ok (.iconst 0, 1) := by decide +kernel
theorem dL_law_1164 : decode cL_law 1164 = .ok (.ireturn, 1) := by decide +kernel
theorem dL_law_1165 : decode cL_law 1165 = .ok (.iinc 4 7, 3) := by decide +kernel
theorem dL_law_1168 : decode cL_law 1168 = .ok (.goto (-1135), 3) := by decide +kernel
theorem dL_law_1171 : decode cL_law 1171 = .ok (.iconst 1, 1) := by decide +kernel
theorem dL_law_1172 : decode cL_law 1172 = .ok (.ireturn, 1) := by decide +kernel
