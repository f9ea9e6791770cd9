theorem dX4_tell_138 : decode cX4_tell 138 = .ok (.iinc 7 1, 3) := by decide +kernel
theorem dX4_tell_141 : decode cX4_tell 141 = .ok (.goto (-85), 3) := by decide +kernel
theorem dX4_tell_144 : decode cX4_tell 144 = .ok (.aload_n 0, 1) := by decide +kernel
theorem dX4_tell_145 : decode cX4_tell 145 = .ok (.aload 5, 2) := by decide +kernel
theorem dX4_tell_147 : decode cX4_tell 147 = .ok (.invokevirtual 77, 3) := by decide +kernel
theorem dX4_tell_150 : decode cX4_tell 150 = .ok (.ifCond .eq 16, 3) := by decide +kernel
theorem dX4_tell_153 : decode cX4_tell 153 = .ok (.aload_n 0, 1) := by decide +kernel
theorem dX4_tell_154 : decode cX4_tell 154 = .ok (.getfield 37, 3) := by decide +kernel
theorem dX4_tell_157 : decode cX4_tell 157 = .ok (.aload_n 3, 1) := by decide +kernel
theorem dX4_tell_158 : decode cX4_tell 158 = .ok (.aload 5, 2) := by decide +kernel
theorem dX4_tell_160 : decode cX4_tell 160 = .ok (.invokevirtual 89, 3) := by decide +kernel
theorem dX4_tell_163 : decode cX4_tell 163 = .ok (.ifCond .ne 5, 3) := by decide +kernel
theorem dX4_tell_166 : decode cX4_tell 166 = .ok (.iconst 0, 1) := by decide +kernel
theorem dX4_tell_167 : decode cX4_tell 167 = .ok (.ireturn, 1) := by decide +kernel
theorem dX4_tell_168 : decode cX4_tell 168 = .ok (.aload_n 1, 1) := by decide +kernel
theorem dX4_tell_169 : decode cX4_tell 169 = .ok (.iload 6, 2) := by decide +kernel
theorem dX4_tell_171 : decode cX4_tell 171 = .ok (.aload_n 3, 1) := by decide +kernel
theorem dX4_tell_172 : decode cX4_tell 172 = .ok (.aload 5, 2) := by decide +kernel
theorem dX4_tell_174 : decode cX4_tell 174 = .ok (.invokevirtual 93, 3) := by decide +kernel
theorem dX4_tell_177 : decode cX4_tell 177 = .ok (.iconst 1, 1) := by decide +kernel
theorem dX4_tell_178 : decode cX4_tell 178 = .ok (.ireturn, 1) := by decide +kernel
theorem dX4_isLow_0 : decode cX4_isLow 0 = .ok (.aload_n 0, 1) := by decide +kernel
theorem dX4_isLow_1 : decode cX4_isLow 1 = .ok (.getfield 19, 3) := by decide +kernel
theorem dX4_isLow_4 : decode cX4_isLow 4 = .ok (.aload_n 1, 1) := by decide +kernel
theorem dX4_isLow_5 : decode cX4_isLow 5 = .ok (.aload_n 1, 1) := by decide +kernel
theorem dX4_isLow_6 : decode cX4_isLow 6 = .ok (.invokevirtual 85, 3) := by decide +kernel
theorem dX4_isLow_9 : decode cX4_isLow 9 = .ok (.aload_n 0, 1) := by decide +kernel
theorem dX4_isLow_10 : decode cX4_isLow 10 = .ok (.getfield 19, 3) := by decide +kernel
theorem dX4_isLow_13 : decode cX4_isLow 13 = .ok (.iconst 1, 1) := by decide +kernel
theorem dX4_isLow_14 : decode cX4_isLow 14 = .ok (.invokevirtual 99, 3) := by decide +kernel
theorem dX4_isLow_17 : decode cX4_isLow 17 = .ok (.aload_n 0, 1) := by decide +kernel
theorem dX4_isLow_18 : decode cX4_isLow 18 = .ok (.getfield 19, 3) := by decide +kernel
theorem dX4_isLow_21 : decode cX4_isLow 21 = .ok (.aload_n 0, 1) := by decide +kernel
theorem dX4_isLow_22 : decode cX4_isLow 22 = .ok (.getfield 16, 3) := by decide +kernel
theorem dX4_isLow_25 : decode cX4_isLow 25 = .ok (.invokevirtual 102, 3) := by decide +kernel
theorem dX4_isLow_28 : decode cX4_isLow 28 = .ok (.ifCond .ge 7, 3) := by decide +kernel
theorem dX4_isLow_31 : decode cX4_isLow 31 = .ok (.iconst 1, 1) := by decide +kernel
theorem dX4_isLow_32 : decode cX4_isLow 32 = .ok (.goto 4, 3) := by decide +kernel
theorem dX4_isLow_35 : decode cX4_isLow 35 = .ok (.iconst 0, 1) := by decide +kernel
theorem dX4_isLow_36 : decode cX4_isLow 36 = .ok (.ireturn, 1) := by decide +kernel
theorem dX5_isPrime_0 : decode cX5_isPrime 0 = .ok (.iload_n 0, 1) := by decide +kernel
theorem dX5_isPrime_1 : decode cX5_isPrime 1 = .ok (.iconst 2, 1) := by decide +kernel
theorem dX5_isPrime_2 : decode cX5_isPrime 2 = .ok (.if_icmp .ge 5, 3) := by decide +kernel
theorem dX5_isPrime_5 : decode cX5_isPrime 5 = .ok (.iconst 0, 1) := by decide +kernel
theorem dX5_isPrime_6 : decode cX5_isPrime 6 = .ok (.ireturn, 1) := by decide +kernel
theorem dX5_isPrime_7 : decode cX5_isPrime 7 = .ok (.iconst 0, 1) := by decide +kernel
theorem dX5_isPrime_8 : decode cX5_isPrime 8 = .ok (.istore_n 1, 1) := by decide +kernel
theorem dX5_isPrime_9 : decode cX5_isPrime 9 = .ok (.iload_n 1, 1) := by decide +kernel
theorem dX5_isPrime_10 : decode cX5_isPrime 10 = .ok (.getstatic 7, 3) := by decide +kernel
theorem dX5_isPrime_13 : decode cX5_isPrime 13 = .ok (.arraylength, 1) := by decide +kernel
theorem dX5_isPrime_14 : decode cX5_isPrime 14 = .ok (.if_icmp .ge 34, 3) := by decide +kernel
theorem dX5_isPrime_17 : decode cX5_isPrime 17 = .ok (.iload_n 0, 1) := by decide +kernel
theorem dX5_isPrime_18 : decode cX5_isPrime 18 = .ok (.getstatic 7, 3) := by decide +kernel
theorem dX5_isPrime_21 : decode cX5_isPrime 21 = .ok (.iload_n 1, 1) := by decide +kernel
theorem dX5_isPrime_22 : decode cX5_isPrime 22 = .ok (.iaload, 1) := by decide +kernel
theorem dX5_isPrime_23 : decode cX5_isPrime 23 = .ok (.irem, 1) := by decide +kernel
theorem dX5_isPrime_24 : decode cX5_isPrime 24 = .ok (.ifCond .ne 18, 3) := by decide +kernel
theorem dX5_isPrime_27 : decode cX5_isPrime 27 = .ok (.iload_n 0, 1) := by decide +kernel
theorem dX5_isPrime_28 : decode cX5_isPrime 28 = .ok (.getstatic 7, 3) := by decide +kernel
theorem dX5_isPrime_31 : decode cX5_isPrime 31 = .ok (.iload_n 1, 1) := by decide +kernel
theorem dX5_isPrime_32 : decode cX5_isPrime 32 = .ok (.iaload, 1) := by decide +kernel
theorem dX5_isPrime_33 : decode cX5_isPrime 33 = .ok (.if_icmp .ne 7, 3) := by decide +kernel
theorem dX5_isPrime_36 : decode cX5_isPrime 36 = .ok (.iconst 1, 1) := by decide +kernel
theorem dX5_isPrime_37 : decode cX5_isPrime 37 = .ok (.goto 4, 3) := by decide +kernel
theorem dX5_isPrime_40 : decode cX5_isPrime 40 = .ok (.iconst 0, 1) := by decide +kernel
theorem dX5_isPrime_41 : decode cX5_isPrime 41 = .ok (.ireturn, 1) := by decide +kernel
theorem dX5_isPrime_42 : decode cX5_isPrime 42 = .ok (.iinc 1 1, 3) := by decide +kernel
theorem dX5_isPrime_45 : decode cX5_isPrime 45 = .ok (.goto (-36), 3) := by decide +kernel
theorem dX5_isPrime_48 : decode cX5_isPrime 48 = .ok (.iconst 0, 1) := by decide +kernel
theorem dX5_isPrime_49 : decode cX5_isPrime 49 = .ok (.istore_n 1, 1) := by decide +kernel
theorem dX5_isPrime_50 : decode cX5_isPrime 50 = .ok (.iload_n 1, 1) := by decide +kernel
theorem dX5_isPrime_51 : decode cX5_isPrime 51 = .ok (.getstatic 7, 3) := by decide +kernel
theorem dX5_isPrime_54 : decode cX5_isPrime 54 = .ok (.arraylength, 1) := by decide +kernel
theorem dX5_isPrime_55 : decode cX5_isPrime 55 = .ok (.if_icmp .ge 23, 3) := by decide +kernel
theorem dX5_isPrime_58 : decode cX5_isPrime 58 = .ok (.iload_n 0, 1) := by decide +kernel
theorem dX5_isPrime_59 : decode cX5_isPrime 59 = .ok (.getstatic 7, 3) := by decide +kernel
theorem dX5_isPrime_62 : decode cX5_isPrime 62 = .ok (.iload_n 1, 1) := by decide +kernel
theorem dX5_isPrime_63 : decode cX5_isPrime 63 = .ok (.iaload, 1) := by decide +kernel
theorem dX5_isPrime_64 : decode cX5_isPrime 64 = .ok (.invokestatic 13, 3) := by decide +kernel
theorem dX5_isPrime_67 : decode cX5_isPrime 67 = .ok (.ifCond .ne 5, 3) := by decide +kernel
theorem dX5_isPrime_70 : decode cX5_isPrime 70 = .ok (.iconst 0, 1) := by decide +kernel
theorem dX5_isPrime_71 : decode cX5_isPrime 71 = .ok (.ireturn, 1) := by decide +kernel
theorem dX5_isPrime_72 : decode cX5_isPrime 72 = .ok (.iinc 1 1, 3) := by decide +kernel
theorem dX5_isPrime_75 : decode cX5_isPrime 75 = .ok (.goto (-25), 3) := by decide +kernel
theorem dX5_isPrime_78 : decode cX5_isPrime 78 = .ok (.iconst 1, 1) := by decide +kernel
theorem dX5_isPrime_79 : decode cX5_isPrime 79 = .ok (.ireturn, 1) := by decide +kernel
theorem dX5_passes_0 : decode cX5_passes 0 = .ok (.iload_n 0, 1) := by decide +kernel
theorem dX5_passes_1 : decode cX5_passes 1 = .ok (.iconst 1, 1) := by decide +kernel
theorem dX5_passes_2 : decode cX5_passes 2 = .ok (.isub, 1) := by decide +kernel
theorem dX5_passes_3 : decode cX5_passes 3 = .ok (.invokestatic 17, 3) := by decide +kernel
theorem dX5_passes_6 : decode cX5_passes 6 = .ok (.istore_n 2, 1) := by decide +kernel
theorem dX5_passes_7 : decode cX5_passes 7 = .ok (.iload_n 1, 1) := by decide +kernel
theorem dX5_passes_8 : decode cX5_passes 8 = .ok (.i2l, 1) := by decide +kernel
theorem dX5_passes_9 : decode cX5_passes 9 = .ok (.iload_n 0, 1) := by decide +kernel
theorem dX5_passes_10 : decode cX5_passes 10 = .ok (.iconst 1, 1) := by decide +kernel
theorem dX5_passes_11 : decode cX5_passes 11 = .ok (.isub, 1) := by decide +kernel
theorem dX5_passes_12 : decode cX5_passes 12 = .ok (.iload_n 2, 1) := by decide +kernel
theorem dX5_passes_13 : decode cX5_passes 13 = .ok (.ishr, 1) := by decide +kernel
theorem dX5_passes_14 : decode cX5_passes 14 = .ok (.iload_n 0, 1) := by decide +kernel
theorem dX5_passes_15 : decode cX5_passes 15 = .ok (.invokestatic 23, 3) := by decide +kernel
theorem dX5_passes_18 : decode cX5_passes 18 = .ok (.lstore_n 3, 1) := by decide +kernel
theorem dX5_passes_19 : decode cX5_passes 19 = .ok (.lload_n 3, 1) := by decide +kernel
theorem dX5_passes_20 : decode cX5_passes 20 = .ok (.lconst 1, 1) := by decide +kernel
theorem dX5_passes_21 : decode cX5_passes 21 = .ok (.lcmp, 1) := by decide +kernel
theorem dX5_passes_22 : decode cX5_passes 22 = .ok (.ifCond .eq 12, 3) := by decide +kernel
theorem dX5_passes_25 : decode cX5_passes 25 = .ok (.lload_n 3, 1) := by decide +kernel
theorem dX5_passes_26 : decode cX5_passes 26 = .ok (.iload_n 0, 1) := by decide +kernel
theorem dX5_passes_27 : decode cX5_passes 27 = .ok (.iconst 1, 1) := by decide +kernel
theorem dX5_passes_28 : decode cX5_passes 28 = .ok (.isub, 1) := by decide +kernel
theorem dX5_passes_29 : decode cX5_passes 29 = .ok (.i2l, 1) := by decide +kernel
theorem dX5_passes_30 : decode cX5_passes 30 = .ok (.lcmp, 1) := by decide +kernel
theorem dX5_passes_31 : decode cX5_passes 31 = .ok (.ifCond .ne 5, 3) := by decide +kernel
theorem dX5_passes_34 : decode cX5_passes 34 = .ok (.iconst 1, 1) := by decide +kernel
theorem dX5_passes_35 : decode cX5_passes 35 = .ok (.ireturn, 1) := by decide +kernel
theorem dX5_passes_36 : decode cX5_passes 36 = .ok (.iconst 1, 1) := by decide +kernel
theorem dX5_passes_37 : decode cX5_passes 37 = .ok (.istore 5, 2) := by decide +kernel
theorem dX5_passes_39 : decode cX5_passes 39 = .ok (.iload 5, 2) := by decide +kernel
theorem dX5_passes_41 : decode cX5_passes 41 = .ok (.iload_n 2, 1) := by decide +kernel
theorem dX5_passes_42 : decode cX5_passes 42 = .ok (.if_icmp .ge 27, 3) := by decide +kernel
theorem dX5_passes_45 : decode cX5_passes 45 = .ok (.lload_n 3, 1) := by decide +kernel
theorem dX5_passes_46 : decode cX5_passes 46 = .ok (.lload_n 3, 1) := by decide +kernel
theorem dX5_passes_47 : decode cX5_passes 47 = .ok (.lmul, 1) := by decide +kernel
theorem dX5_passes_48 : decode cX5_passes 48 = .ok (.iload_n 0, 1) := by decide +kernel
theorem dX5_passes_49 : decode cX5_passes 49 = .ok (.i2l, 1) := by decide +kernel
theorem dX5_passes_50 : decode cX5_passes 50 = .ok (.lrem, 1) := by decide +kernel
theorem dX5_passes_51 : decode cX5_passes 51 = .ok (.lstore_n 3, 1) := by decide +kernel
theorem dX5_passes_52 : decode cX5_passes 52 = .ok (.lload_n 3, 1) := by decide +kernel
theorem dX5_passes_53 : decode cX5_passes 53 = .ok (.iload_n 0, 1) := by decide +kernel
theorem dX5_passes_54 : decode cX5_passes 54 = .ok (.iconst 1, 1) := by decide +kernel
theorem dX5_passes_55 : decode cX5_passes 55 = .ok (.isub, 1) := by decide +kernel
theorem dX5_passes_56 : decode cX5_passes 56 = .ok (.i2l, 1) := by decide +kernel
theorem dX5_passes_57 : decode cX5_passes 57 = .ok (.lcmp, 1) := by decide +kernel
theorem dX5_passes_58 : decode cX5_passes 58 = .ok (.ifCond .ne 5, 3) := by decide +kernel
theorem dX5_passes_61 : decode cX5_passes 61 = .ok (.iconst 1, 1) := by decide +kernel
theorem dX5_passes_62 : decode cX5_passes 62 = .ok (.ireturn, 1) := by decide +kernel
theorem dX5_passes_63 : decode cX5_passes 63 = .ok (.iinc 5 1, 3) := by decide +kernel
theorem dX5_passes_66 : decode cX5_passes 66 = .ok (.goto (-27), 3) := by decide +kernel
theorem dX5_passes_69 : decode cX5_passes 69 = .ok (.iconst 0, 1) := by decide +kernel
theorem dX5_passes_70 : decode cX5_passes 70 = .ok (.ireturn, 1) := by decide +kernel
theorem dX5_power_0 : decode cX5_power 0 = .ok (.lconst 1, 1) := by decide +kernel
theorem dX5_power_1 : decode cX5_power 1 = .ok (.lstore 4, 2) := by decide +kernel
theorem dX5_power_3 : decode cX5_power 3 = .ok (.lload_n 0, 1) := by decide +kernel
theorem dX5_power_4 : decode cX5_power 4 = .ok (.lstore 6, 2) := by decide +kernel
theorem dX5_power_6 : decode cX5_power 6 = .ok (.iload_n 2, 1) := by decide +kernel
theorem dX5_power_7 : decode cX5_power 7 = .ok (.istore 8, 2) := by decide +kernel
theorem dX5_power_9 : decode cX5_power 9 = .ok (.iload 8, 2) := by decide +kernel
theorem dX5_power_11 : decode cX5_power 11 = .ok (.ifCond .le 40, 3) := by decide +kernel
theorem dX5_power_14 : decode cX5_power 14 = .ok (.iload 8, 2) := by decide +kernel
theorem dX5_power_16 : decode cX5_power 16 = .ok (.iconst 1, 1) := by decide +kernel
theorem dX5_power_17 : decode cX5_power 17 = .ok (.iand, 1) := by decide +kernel
theorem dX5_power_18 : decode cX5_power 18 = .ok (.iconst 1, 1) := by decide +kernel
theorem dX5_power_19 : decode cX5_power 19 = .ok (.if_icmp .ne 13, 3) := by decide +kernel
theorem dX5_power_22 : decode cX5_power 22 = .ok (.lload 4, 2) := by decide +kernel
theorem dX5_power_24 : decode cX5_power 24 = .ok (.lload 6, 2) := by decide +kernel
theorem dX5_power_26 : decode cX5_power 26 = .ok (.lmul, 1) := by decide +kernel
theorem dX5_power_27 : decode cX5_power 27 = .ok (.iload_n 3, 1) := by decide +kernel
theorem dX5_power_28 : decode cX5_power 28 = .ok (.i2l, 1) := by decide +kernel
theorem dX5_power_29 : decode cX5_power 29 = .ok (.lrem, 1) := by decide +kernel
theorem dX5_power_30 : decode cX5_power 30 = .ok (.lstore 4, 2) := by decide +kernel
theorem dX5_power_32 : decode cX5_power 32 = .ok (.lload 6, 2) := by decide +kernel
theorem dX5_power_34 : decode cX5_power 34 = .ok (.lload 6, 2) := by decide +kernel
theorem dX5_power_36 : decode cX5_power 36 = .ok (.lmul, 1) := by decide +kernel
theorem dX5_power_37 : decode cX5_power 37 = .ok (.iload_n 3, 1) := by decide +kernel
theorem dX5_power_38 : decode cX5_power 38 = .ok (.i2l, 1) := by decide +kernel
theorem dX5_power_39 : decode cX5_power 39 = .ok (.lrem, 1) := by decide +kernel
theorem dX5_power_40 : decode cX5_power 40 = .ok (.lstore 6, 2) := by decide +kernel
theorem dX5_power_42 : decode cX5_power 42 = .ok (.iload 8, 2) := by decide +kernel
theorem dX5_power_44 : decode cX5_power 44 = .ok (.iconst 1, 1) := by decide +kernel
theorem dX5_power_45 : decode cX5_power 45 = .ok (.ishr, 1) := by decide +kernel
theorem dX5_power_46 : decode cX5_power 46 = .ok (.istore 8, 2) := by decide +kernel
theorem dX5_power_48 : decode cX5_power 48 = .ok (.goto (-39), 3) := by decide +kernel
theorem dX5_power_51 : decode cX5_power 51 = .ok (.lload 4, 2) := by decide +kernel
theorem dX5_power_53 : decode cX5_power 53 = .ok (.lreturn, 1) := by decide +kernel
theorem dX5_inverse_0 : decode cX5_inverse 0 = .ok (.iload_n 0, 1) := by decide +kernel
theorem dX5_inverse_1 : decode cX5_inverse 1 = .ok (.i2l, 1) := by decide +kernel
theorem dX5_inverse_2 : decode cX5_inverse 2 = .ok (.iload_n 1, 1) := by decide +kernel
theorem dX5_inverse_3 : decode cX5_inverse 3 = .ok (.iconst 2, 1) := by decide +kernel
theorem dX5_inverse_4 : decode cX5_inverse 4 = .ok (.isub, 1) := by decide +kernel
theorem dX5_inverse_5 : decode cX5_inverse 5 = .ok (.iload_n 1, 1) := by decide +kernel
theorem dX5_inverse_6 : decode cX5_inverse 6 = .ok (.invokestatic 23, 3) := by decide +kernel
theorem dX5_inverse_9 : decode cX5_inverse 9 = .ok (.lreturn, 1) := by decide +kernel
theorem dX6_init_0 : decode cX6_init 0 = .ok (.aload_n 0, 1) := by decide +kernel
theorem dX6_init_1 : decode cX6_init 1 = .ok (.invokespecial 1, 3) := by decide +kernel
theorem dX6_init_4 : decode cX6_init 4 = .ok (.aload_n 0, 1) := by decide +kernel
theorem dX6_init_5 : decode cX6_init 5 = .ok (.new 7, 3) := by decide +kernel
theorem dX6_init_8 : decode cX6_init 8 = .ok (.dup, 1) := by decide +kernel
theorem dX6_init_9 : decode cX6_init 9 = .ok (.invokespecial 9, 3) := by decide +kernel
theorem dX6_init_12 : decode cX6_init 12 = .ok (.putfield 10, 3) := by decide +kernel
theorem dX6_init_15 : decode cX6_init 15 = .ok (.aload_n 0, 1) := by decide +kernel
theorem dX6_init_16 : decode cX6_init 16 = .ok (.new 7, 3) := by decide +kernel
theorem dX6_init_19 : decode cX6_init 19 = .ok (.dup, 1) := by decide +kernel
theorem dX6_init_20 : decode cX6_init 20 = .ok (.invokespecial 9, 3) := by decide +kernel
theorem dX6_init_23 : decode cX6_init 23 = .ok (.putfield 16, 3) := by decide +kernel
theorem dX6_init_26 : decode cX6_init 26 = .ok (.aload_n 0, 1) := by decide +kernel
theorem dX6_init_27 : decode cX6_init 27 = .ok (.iload_n 1, 1) := by decide +kernel
theorem dX6_init_28 : decode cX6_init 28 = .ok (.putfield 19, 3) := by decide +kernel
theorem dX6_init_31 : decode cX6_init 31 = .ok (.aload_n 0, 1) := by decide +kernel
theorem dX6_init_32 : decode cX6_init 32 = .ok (.aload_n 2, 1) := by decide +kernel
theorem dX6_init_33 : decode cX6_init 33 = .ok (.putfield 23, 3) := by decide +kernel
theorem dX6_init_36 : decode cX6_init 36 = .ok (.aload_n 0, 1) := by decide +kernel
theorem dX6_init_37 : decode cX6_init 37 = .ok (.iload_n 1, 1) := by decide +kernel
theorem dX6_init_38 : decode cX6_init 38 = .ok (.newarray .int, 2) := by decide +kernel
theorem dX6_init_40 : decode cX6_init 40 = .ok (.putfield 27, 3) := by decide +kernel
theorem dX6_init_43 : decode cX6_init 43 = .ok (.aload_n 0, 1) := by decide +kernel
theorem dX6_init_44 : decode cX6_init 44 = .ok (.iload_n 1, 1) := by decide +kernel
theorem dX6_init_45 : decode cX6_init 45 = .ok (.newarray .int, 2) := by decide +kernel
theorem dX6_init_47 : decode cX6_init 47 = .ok (.putfield 31, 3) := by decide +kernel
theorem dX6_init_50 : decode cX6_init 50 = .ok (.aload_n 0, 1) := by decide +kernel
theorem dX6_init_51 : decode cX6_init 51 = .ok (.iload_n 1, 1) := by decide +kernel
theorem dX6_init_52 : decode cX6_init 52 = .ok (.newarray .int, 2) := by decide +kernel
theorem dX6_init_54 : decode cX6_init 54 = .ok (.putfield 34, 3) := by decide +kernel
theorem dX6_init_57 : decode cX6_init 57 = .ok (.aload_n 0, 1) := by decide +kernel
theorem dX6_init_58 : decode cX6_init 58 = .ok (.iload_n 1, 1) := by decide +kernel
theorem dX6_init_59 : decode cX6_init 59 = .ok (.invokestatic 37, 3) := by decide +kernel
theorem dX6_init_62 : decode cX6_init 62 = .ok (.putfield 41, 3) := by decide +kernel
theorem dX6_init_65 : decode cX6_init 65 = .ok (.return_, 1) := by decide +kernel
theorem dX6_forget_0 : decode cX6_forget 0 = .ok (.aload_n 0, 1) := by decide +kernel
theorem dX6_forget_1 : decode cX6_forget 1 = .ok (.iconst 0, 1) := by decide +kernel
theorem dX6_forget_2 : decode cX6_forget 2 = .ok (.putfield 45, 3) := by decide +kernel
theorem dX6_forget_5 : decode cX6_forget 5 = .ok (.return_, 1) := by decide +kernel
theorem dX6_fill_0 : decode cX6_fill 0 = .ok (.aload_n 0, 1) := by decide +kernel
theorem dX6_fill_1 : decode cX6_fill 1 = .ok (.aload_n 1, 1) := by decide +kernel
theorem dX6_fill_2 : decode cX6_fill 2 = .ok (.getfield 49, 3) := by decide +kernel
theorem dX6_fill_5 : decode cX6_fill 5 = .ok (.putfield 54, 3) := by decide +kernel
theorem dX6_fill_8 : decode cX6_fill 8 = .ok (.iconst 0, 1) := by decide +kernel
theorem dX6_fill_9 : decode cX6_fill 9 = .ok (.istore_n 2, 1) := by decide +kernel
theorem dX6_fill_10 : decode cX6_fill 10 = .ok (.iload_n 2, 1) := by decide +kernel
theorem dX6_fill_11 : decode cX6_fill 11 = .ok (.aload_n 0, 1) := by decide +kernel
theorem dX6_fill_12 : decode cX6_fill 12 = .ok (.getfield 54, 3) := by decide +kernel
theorem dX6_fill_15 : decode cX6_fill 15 = .ok (.if_icmp .ge 47, 3) := by decide +kernel
theorem dX6_fill_18 : decode cX6_fill 18 = .ok (.aload_n 0, 1) := by decide +kernel
theorem dX6_fill_19 : decode cX6_fill 19 = .ok (.getfield 27, 3) := by decide +kernel
theorem dX6_fill_22 : decode cX6_fill 22 = .ok (.iload_n 2, 1) := by decide +kernel
theorem dX6_fill_23 : decode cX6_fill 23 = .ok (.aload_n 1, 1) := by decide +kernel
theorem dX6_fill_24 : decode cX6_fill 24 = .ok (.getfield 55, 3) := by decide +kernel
theorem dX6_fill_27 : decode cX6_fill 27 = .ok (.iload_n 2, 1) := by decide +kernel
theorem dX6_fill_28 : decode cX6_fill 28 = .ok (.iaload, 1) := by decide +kernel
theorem dX6_fill_29 : decode cX6_fill 29 = .ok (.iastore, 1) := by decide +kernel
theorem dX6_fill_30 : decode cX6_fill 30 = .ok (.aload_n 0, 1) := by decide +kernel
theorem dX6_fill_31 : decode cX6_fill 31 = .ok (.getfield 31, 3) := by decide +kernel
theorem dX6_fill_34 : decode cX6_fill 34 = .ok (.iload_n 2, 1) := by decide +kernel
theorem dX6_fill_35 : decode cX6_fill 35 = .ok (.aload_n 1, 1) := by decide +kernel
theorem dX6_fill_36 : decode cX6_fill 36 = .ok (.getfield 58, 3) := by decide +kernel
theorem dX6_fill_39 : decode cX6_fill 39 = .ok (.iload_n 2, 1) := by decide +kernel
theorem dX6_fill_40 : decode cX6_fill 40 = .ok (.iaload, 1) := by decide +kernel
theorem dX6_fill_41 : decode cX6_fill 41 = .ok (.iastore, 1) := by decide +kernel
theorem dX6_fill_42 : decode cX6_fill 42 = .ok (.aload_n 0, 1) := by decide +kernel
theorem dX6_fill_43 : decode cX6_fill 43 = .ok (.getfield 34, 3) := by decide +kernel
theorem dX6_fill_46 : decode cX6_fill 46 = .ok (.iload_n 2, 1) := by decide +kernel
theorem dX6_fill_47 : decode cX6_fill 47 = .ok (.aload_n 1, 1) := by decide +kernel
theorem dX6_fill_48 : decode cX6_fill 48 = .ok (.iload_n 2, 1) := by decide +kernel
theorem dX6_fill_49 : decode cX6_fill 49 = .ok (.invokevirtual 61, 3) := by decide +kernel
theorem dX6_fill_52 : decode cX6_fill 52 = .ok (.invokevirtual 65, 3) := by decide +kernel
theorem dX6_fill_55 : decode cX6_fill 55 = .ok (.iastore, 1) := by decide +kernel
theorem dX6_fill_56 : decode cX6_fill 56 = .ok (.iinc 2 1, 3) := by decide +kernel
theorem dX6_fill_59 : decode cX6_fill 59 = .ok (.goto (-49), 3) := by decide +kernel
theorem dX6_fill_62 : decode cX6_fill 62 = .ok (.aload_n 0, 1) := by decide +kernel
theorem dX6_fill_63 : decode cX6_fill 63 = .ok (.aload_n 1, 1) := by decide +kernel
theorem dX6_fill_64 : decode cX6_fill 64 = .ok (.invokevirtual 69, 3) := by decide +kernel
theorem dX6_fill_67 : decode cX6_fill 67 = .ok (.putfield 73, 3) := by decide +kernel
theorem dX6_fill_70 : decode cX6_fill 70 = .ok (.aload_n 0, 1) := by decide +kernel
theorem dX6_fill_71 : decode cX6_fill 71 = .ok (.aload_n 0, 1) := by decide +kernel
theorem dX6_fill_72 : decode cX6_fill 72 = .ok (.getfield 73, 3) := by decide +kernel
theorem dX6_fill_75 : decode cX6_fill 75 = .ok (.ifCond .eq 14, 3) := by decide +kernel
theorem dX6_fill_78 : decode cX6_fill 78 = .ok (.aload_n 1, 1) := by decide +kernel
theorem dX6_fill_79 : decode cX6_fill 79 = .ok (.aload_n 0, 1) := by decide +kernel
theorem dX6_fill_80 : decode cX6_fill 80 = .ok (.getfield 41, 3) := by decide +kernel
theorem dX6_fill_83 : decode cX6_fill 83 = .ok (.invokevirtual 75, 3) := by decide +kernel
theorem dX6_fill_86 : decode cX6_fill 86 = .ok (.ifCond .eq 7, 3) := by decide +kernel
theorem dX6_fill_89 : decode cX6_fill 89 = .ok (.iconst 1, 1) := by decide +kernel
theorem dX6_fill_90 : decode cX6_fill 90 = .ok (.goto 4, 3) := by decide +kernel
theorem dX6_fill_93 : decode cX6_fill 93 = .ok (.iconst 0, 1) := by decide +kernel
theorem dX6_fill_94 : decode cX6_fill 94 = .ok (.putfield 45, 3) := by decide +kernel
theorem dX6_fill_97 : decode cX6_fill 97 = .ok (.aload_n 0, 1) := by decide +kernel
theorem dX6_fill_98 : decode cX6_fill 98 = .ok (.getfield 45, 3) := by decide +kernel
theorem dX6_fill_101 : decode cX6_fill 101 = .ok (.ireturn, 1) := by decide +kernel
theorem dX6_tellsUnknowns_0 : decode cX6_tellsUnknowns 0 = .ok (.aload_n 0, 1) := by decide +kernel
theorem dX6_tellsUnknowns_1 : decode cX6_tellsUnknowns 1 = .ok (.getfield 45, 3) := by decide +kernel
theorem dX6_tellsUnknowns_4 : decode cX6_tellsUnknowns 4 = .ok (.ifCond .eq 14, 3) := by decide +kernel
theorem dX6_tellsUnknowns_7 : decode cX6_tellsUnknowns 7 = .ok (.aload_n 0, 1) := by decide +kernel
theorem dX6_tellsUnknowns_8 : decode cX6_tellsUnknowns 8 = .ok (.getfield 73, 3) := by decide +kernel
theorem dX6_tellsUnknowns_11 : decode cX6_tellsUnknowns 11 = .ok (.ifCond .eq 7, 3) := by decide +kernel
theorem dX6_tellsUnknowns_14 : decode cX6_tellsUnknowns 14 = .ok (.iconst 1, 1) := by decide +kernel
theorem dX6_tellsUnknowns_15 : decode cX6_tellsUnknowns 15 = .ok (.goto 4, 3) := by decide +kernel
theorem dX6_tellsUnknowns_18 : decode cX6_tellsUnknowns 18 = .ok (.iconst 0, 1) := by decide +kernel
theorem dX6_tellsUnknowns_19 : decode cX6_tellsUnknowns 19 = .ok (.ireturn, 1) := by decide +kernel
theorem dX6_addUp_0 : decode cX6_addUp 0 = .ok (.aload_n 0, 1) := by decide +kernel
theorem dX6_addUp_1 : decode cX6_addUp 1 = .ok (.getfield 16, 3) := by decide +kernel
theorem dX6_addUp_4 : decode cX6_addUp 4 = .ok (.invokevirtual 79, 3) := by decide +kernel
theorem dX6_addUp_7 : decode cX6_addUp 7 = .ok (.iconst 0, 1) := by decide +kernel
theorem dX6_addUp_8 : decode cX6_addUp 8 = .ok (.istore_n 3, 1) := by decide +kernel
theorem dX6_addUp_9 : decode cX6_addUp 9 = .ok (.iload_n 3, 1) := by decide +kernel
theorem dX6_addUp_10 : decode cX6_addUp 10 = .ok (.aload_n 0, 1) := by decide +kernel
theorem dX6_addUp_11 : decode cX6_addUp 11 = .ok (.getfield 19, 3) := by decide +kernel
theorem dX6_addUp_14 : decode cX6_addUp 14 = .ok (.if_icmp .ge 71, 3) := by decide +kernel
theorem dX6_addUp_17 : decode cX6_addUp 17 = .ok (.aload_n 1, 1) := by decide +kernel
theorem dX6_addUp_18 : decode cX6_addUp 18 = .ok (.iload_n 2, 1) := by decide +kernel
theorem dX6_addUp_19 : decode cX6_addUp 19 = .ok (.aload_n 0, 1) := by decide +kernel
theorem dX6_addUp_20 : decode cX6_addUp 20 = .ok (.getfield 19, 3) := by decide +kernel
theorem dX6_addUp_23 : decode cX6_addUp 23 = .ok (.iconst 1, 1) := by decide +kernel
theorem dX6_addUp_24 : decode cX6_addUp 24 = .ok (.iadd, 1) := by decide +kernel
theorem dX6_addUp_25 : decode cX6_addUp 25 = .ok (.imul, 1) := by decide +kernel
theorem dX6_addUp_26 : decode cX6_addUp 26 = .ok (.iload_n 3, 1) := by decide +kernel
theorem dX6_addUp_27 : decode cX6_addUp 27 = .ok (.iadd, 1) := by decide +kernel
theorem dX6_addUp_28 : decode cX6_addUp 28 = .ok (.aaload, 1) := by decide +kernel
theorem dX6_addUp_29 : decode cX6_addUp 29 = .ok (.astore 4, 2) := by decide +kernel
theorem dX6_addUp_31 : decode cX6_addUp 31 = .ok (.aload_n 0, 1) := by decide +kernel
theorem dX6_addUp_32 : decode cX6_addUp 32 = .ok (.getfield 23, 3) := by decide +kernel
theorem dX6_addUp_35 : decode cX6_addUp 35 = .ok (.aload 4, 2) := by decide +kernel
theorem dX6_addUp_37 : decode cX6_addUp 37 = .ok (.aload_n 0, 1) := by decide +kernel
theorem dX6_addUp_38 : decode cX6_addUp 38 = .ok (.getfield 41, 3) := by decide +kernel
theorem dX6_addUp_41 : decode cX6_addUp 41 = .ok (.iload_n 3, 1) := by decide +kernel
theorem dX6_addUp_42 : decode cX6_addUp 42 = .ok (.aaload, 1) := by decide +kernel
theorem dX6_addUp_43 : decode cX6_addUp 43 = .ok (.iconst 0, 1) := by decide +kernel
theorem dX6_addUp_44 : decode cX6_addUp 44 = .ok (.aload_n 0, 1) := by decide +kernel
theorem dX6_addUp_45 : decode cX6_addUp 45 = .ok (.getfield 10, 3) := by decide +kernel
theorem dX6_addUp_48 : decode cX6_addUp 48 = .ok (.invokevirtual 82, 3) := by decide +kernel
theorem dX6_addUp_51 : decode cX6_addUp 51 = .ok (.ifCond .eq 26, 3) := by decide +kernel
theorem dX6_addUp_54 : decode cX6_addUp 54 = .ok (.aload_n 0, 1) := by decide +kernel
theorem dX6_addUp_55 : decode cX6_addUp 55 = .ok (.getfield 23, 3) := by decide +kernel
theorem dX6_addUp_58 : decode cX6_addUp 58 = .ok (.aload_n 0, 1) := by decide +kernel
theorem dX6_addUp_59 : decode cX6_addUp 59 = .ok (.getfield 16, 3) := by decide +kernel
theorem dX6_addUp_62 : decode cX6_addUp 62 = .ok (.aload_n 0, 1) := by decide +kernel
theorem dX6_addUp_63 : decode cX6_addUp 63 = .ok (.getfield 10, 3) := by decide +kernel
theorem dX6_addUp_66 : decode cX6_addUp 66 = .ok (.iconst 0, 1) := by decide +kernel
theorem dX6_addUp_67 : decode cX6_addUp 67 = .ok (.aload_n 0, 1) := by decide +kernel
theorem dX6_addUp_68 : decode cX6_addUp 68 = .ok (.getfield 16, 3) := by decide +kernel
theorem dX6_addUp_71 : decode cX6_addUp 71 = .ok (.invokevirtual 88, 3) := by decide +kernel
theorem dX6_addUp_74 : decode cX6_addUp 74 = .ok (.ifCond .ne 5, 3) := by decide +kernel
theorem dX6_addUp_77 : decode cX6_addUp 77 = .ok (.iconst 0, 1) := by decide +kernel
theorem dX6_addUp_78 : decode cX6_addUp 78 = .ok (.ireturn, 1) := by decide +kernel
theorem dX6_addUp_79 : decode cX6_addUp 79 = .ok (.iinc 3 1, 3) := by decide +kernel
theorem dX6_addUp_82 : decode cX6_addUp 82 = .ok (.goto (-73), 3) := by decide +kernel
theorem dX6_addUp_85 : decode cX6_addUp 85 = .ok (.iconst 1, 1) := by decide +kernel
theorem dX6_addUp_86 : decode cX6_addUp 86 = .ok (.ireturn, 1) := by decide +kernel
theorem dX7_init_0 : decode cX7_init 0 = .ok (.aload_n 0, 1) := by decide +kernel
theorem dX7_init_1 : decode cX7_init 1 = .ok (.invokespecial 1, 3) := by decide +kernel
theorem dX7_init_4 : decode cX7_init 4 = .ok (.aload_n 0, 1) := by decide +kernel
theorem dX7_init_5 : decode cX7_init 5 = .ok (.new 7, 3) := by decide +kernel
theorem dX7_init_8 : decode cX7_init 8 = .ok (.dup, 1) := by decide +kernel
theorem dX7_init_9 : decode cX7_init 9 = .ok (.invokespecial 9, 3) := by decide +kernel
theorem dX7_init_12 : decode cX7_init 12 = .ok (.putfield 10, 3) := by decide +kernel
theorem dX7_init_15 : decode cX7_init 15 = .ok (.aload_n 0, 1) := by decide +kernel
theorem dX7_init_16 : decode cX7_init 16 = .ok (.new 7, 3) := by decide +kernel
theorem dX7_init_19 : decode cX7_init 19 = .ok (.dup, 1) := by decide +kernel
theorem dX7_init_20 : decode cX7_init 20 = .ok (.invokespecial 9, 3) := by decide +kernel
theorem dX7_init_23 : decode cX7_init 23 = .ok (.putfield 16, 3) := by decide +kernel
theorem dX7_init_26 : decode cX7_init 26 = .ok (.aload_n 0, 1) := by decide +kernel
theorem dX7_init_27 : decode cX7_init 27 = .ok (.new 7, 3) := by decide +kernel
theorem dX7_init_30 : decode cX7_init 30 = .ok (.dup, 1) := by decide +kernel
theorem dX7_init_31 : decode cX7_init 31 = .ok (.invokespecial 9, 3) := by decide +kernel
theorem dX7_init_34 : decode cX7_init 34 = .ok (.putfield 19, 3) := by decide +kernel
theorem dX7_init_37 : decode cX7_init 37 = .ok (.aload_n 0, 1) := by decide +kernel
theorem dX7_init_38 : decode cX7_init 38 = .ok (.bipush 90, 2) := by decide +kernel
theorem dX7_init_40 : decode cX7_init 40 = .ok (.newarray .byte, 2) := by decide +kernel
theorem dX7_init_42 : decode cX7_init 42 = .ok (.putfield 22, 3) := by decide +kernel
theorem dX7_init_45 : decode cX7_init 45 = .ok (.aload_n 0, 1) := by decide +kernel
theorem dX7_init_46 : decode cX7_init 46 = .ok (.aload_n 1, 1) := by decide +kernel
theorem dX7_init_47 : decode cX7_init 47 = .ok (.putfield 26, 3) := by decide +kernel
theorem dX7_init_50 : decode cX7_init 50 = .ok (.aload_n 0, 1) := by decide +kernel
theorem dX7_init_51 : decode cX7_init 51 = .ok (.getfield 10, 3) := by decide +kernel
theorem dX7_init_54 : decode cX7_init 54 = .ok (.lconst 1, 1) := by decide +kernel
theorem dX7_init_55 : decode cX7_init 55 = .ok (.invokevirtual 30, 3) := by decide +kernel
theorem dX7_init_58 : decode cX7_init 58 = .ok (.return_, 1) := by decide +kernel
theorem dX7_write_0 : decode cX7_write 0 = .ok (.aload_n 0, 1) := by decide +kernel
theorem dX7_write_1 : decode cX7_write 1 = .ok (.getfield 16, 3) := by decide +kernel
theorem dX7_write_4 : decode cX7_write 4 = .ok (.aload_n 1, 1) := by decide +kernel
theorem dX7_write_5 : decode cX7_write 5 = .ok (.getfield 34, 3) := by decide +kernel
theorem dX7_write_8 : decode cX7_write 8 = .ok (.invokevirtual 39, 3) := by decide +kernel
theorem dX7_write_11 : decode cX7_write 11 = .ok (.iconst 0, 1) := by decide +kernel
theorem dX7_write_12 : decode cX7_write 12 = .ok (.istore 4, 2) := by decide +kernel
theorem dX7_write_14 : decode cX7_write 14 = .ok (.iload 4, 2) := by decide +kernel
theorem dX7_write_16 : decode cX7_write 16 = .ok (.iload_n 2, 1) := by decide +kernel
theorem dX7_write_17 : decode cX7_write 17 = .ok (.if_icmp .ge 18, 3) := by decide +kernel
theorem dX7_write_20 : decode cX7_write 20 = .ok (.aload_n 0, 1) := by decide +kernel
theorem dX7_write_21 : decode cX7_write 21 = .ok (.getfield 16, 3) := by decide +kernel
theorem dX7_write_24 : decode cX7_write 24 = .ok (.bipush 10, 2) := by decide +kernel
theorem dX7_write_26 : decode cX7_write 26 = .ok (.invokevirtual 43, 3) := by decide +kernel
theorem dX7_write_29 : decode cX7_write 29 = .ok (.iinc 4 1, 3) := by decide +kernel
theorem dX7_write_32 : decode cX7_write 32 = .ok (.goto (-18), 3) := by decide +kernel
theorem dX7_write_35 : decode cX7_write 35 = .ok (.aload_n 0, 1) := by decide +kernel
theorem dX7_write_36 : decode cX7_write 36 = .ok (.getfield 26, 3) := by decide +kernel
theorem dX7_write_39 : decode cX7_write 39 = .ok (.aload_n 0, 1) := by decide +kernel
theorem dX7_write_40 : decode cX7_write 40 = .ok (.getfield 16, 3) := by decide +kernel
theorem dX7_write_43 : decode cX7_write 43 = .ok (.aload_n 1, 1) := by decide +kernel
theorem dX7_write_44 : decode cX7_write 44 = .ok (.getfield 47, 3) := by decide +kernel
theorem dX7_write_47 : decode cX7_write 47 = .ok (.aload_n 0, 1) := by decide +kernel
theorem dX7_write_48 : decode cX7_write 48 = .ok (.getfield 19, 3) := by decide +kernel
theorem dX7_write_51 : decode cX7_write 51 = .ok (.invokevirtual 50, 3) := by decide +kernel
theorem dX7_write_54 : decode cX7_write 54 = .ok (.aload_n 0, 1) := by decide +kernel
theorem dX7_write_55 : decode cX7_write 55 = .ok (.getfield 16, 3) := by decide +kernel
theorem dX7_write_58 : decode cX7_write 58 = .ok (.invokevirtual 56, 3) := by decide +kernel
theorem dX7_write_61 : decode cX7_write 61 = .ok (.ifCond .ne 22, 3) := by decide +kernel
theorem dX7_write_64 : decode cX7_write 64 = .ok (.iload_n 3, 1) := by decide +kernel
theorem dX7_write_65 : decode cX7_write 65 = .ok (.aload_n 1, 1) := by decide +kernel
theorem dX7_write_66 : decode cX7_write 66 = .ok (.getfield 60, 3) := by decide +kernel
theorem dX7_write_69 : decode cX7_write 69 = .ok (.if_icmp .eq 14, 3) := by decide +kernel
theorem dX7_write_72 : decode cX7_write 72 = .ok (.aload_n 0, 1) := by decide +kernel
theorem dX7_write_73 : decode cX7_write 73 = .ok (.getfield 19, 3) := by decide +kernel
theorem dX7_write_76 : decode cX7_write 76 = .ok (.aload_n 0, 1) := by decide +kernel
theorem dX7_write_77 : decode cX7_write 77 = .ok (.getfield 10, 3) := by decide +kernel
theorem dX7_write_80 : decode cX7_write 80 = .ok (.invokevirtual 64, 3) := by decide +kernel
theorem dX7_write_83 : decode cX7_write 83 = .ok (.aload_n 1, 1) := by decide +kernel
theorem dX7_write_84 : decode cX7_write 84 = .ok (.getfield 60, 3) := by decide +kernel
theorem dX7_write_87 : decode cX7_write 87 = .ok (.ifCond .eq 17, 3) := by decide +kernel
theorem dX7_write_90 : decode cX7_write 90 = .ok (.aload_n 0, 1) := by decide +kernel
theorem dX7_write_91 : decode cX7_write 91 = .ok (.getfield 19, 3) := by decide +kernel
theorem dX7_write_94 : decode cX7_write 94 = .ok (.invokevirtual 56, 3) := by decide +kernel
theorem dX7_write_97 : decode cX7_write 97 = .ok (.ifCond .ne 7, 3) := by decide +kernel
theorem dX7_write_100 : decode cX7_write 100 = .ok (.iconst 1, 1) := by decide +kernel
theorem dX7_write_101 : decode cX7_write 101 = .ok (.goto 4, 3) := by decide +kernel
theorem dX7_write_104 : decode cX7_write 104 = .ok (.iconst 0, 1) := by decide +kernel
theorem dX7_write_105 : decode cX7_write 105 = .ok (.istore 4, 2) := by decide +kernel
theorem dX7_write_107 : decode cX7_write 107 = .ok (.aload_n 0, 1) := by decide +kernel
theorem dX7_write_108 : decode cX7_write 108 = .ok (.iconst 0, 1) := by decide +kernel
theorem dX7_write_109 : decode cX7_write 109 = .ok (.putfield 67, 3) := by decide +kernel
theorem dX7_write_112 : decode cX7_write 112 = .ok (.iconst 0, 1) := by decide +kernel
theorem dX7_write_113 : decode cX7_write 113 = .ok (.istore 5, 2) := by decide +kernel
theorem dX7_write_115 : decode cX7_write 115 = .ok (.iload 5, 2) := by decide +kernel
theorem dX7_write_117 : decode cX7_write 117 = .ok (.bipush 88, 2) := by decide +kernel
theorem dX7_write_119 : decode cX7_write 119 = .ok (.if_icmp .ge 57, 3) := by decide +kernel
theorem dX7_write_122 : decode cX7_write 122 = .ok (.iload 5, 2) := by decide +kernel
theorem dX7_write_124 : decode cX7_write 124 = .ok (.iload_n 2, 1) := by decide +kernel
theorem dX7_write_125 : decode cX7_write 125 = .ok (.if_icmp .le 13, 3) := by decide +kernel
theorem dX7_write_128 : decode cX7_write 128 = .ok (.aload_n 0, 1) := by decide +kernel
theorem dX7_write_129 : decode cX7_write 129 = .ok (.getfield 19, 3) := by decide +kernel
theorem dX7_write_132 : decode cX7_write 132 = .ok (.invokevirtual 56, 3) := by decide +kernel
theorem dX7_write_135 : decode cX7_write 135 = .ok (.ifCond .ne 41, 3) := by decide +kernel
theorem dX7_write_138 : decode cX7_write 138 = .ok (.iload 5, 2) := by decide +kernel
theorem dX7_write_140 : decode cX7_write 140 = .ok (.iload_n 2, 1) := by decide +kernel
theorem dX7_write_141 : decode cX7_write 141 = .ok (.if_icmp .ne 13, 3) := by decide +kernel
theorem dX7_write_144 : decode cX7_write 144 = .ok (.iload_n 2, 1) := by decide +kernel
theorem dX7_write_145 : decode cX7_write 145 = .ok (.ifCond .le 9, 3) := by decide +kernel
theorem dX7_write_148 : decode cX7_write 148 = .ok (.aload_n 0, 1) := by decide +kernel
theorem dX7_write_149 : decode cX7_write 149 = .ok (.bipush 46, 2) := by decide +kernel
theorem dX7_write_151 : decode cX7_write 151 = .ok (.invokevirtual 71, 3) := by decide +kernel
theorem dX7_write_154 : decode cX7_write 154 = .ok (.aload_n 0, 1) := by decide +kernel
theorem dX7_write_155 : decode cX7_write 155 = .ok (.bipush 48, 2) := by decide +kernel
theorem dX7_write_157 : decode cX7_write 157 = .ok (.aload_n 0, 1) := by decide +kernel
theorem dX7_write_158 : decode cX7_write 158 = .ok (.getfield 19, 3) := by decide +kernel
theorem dX7_write_161 : decode cX7_write 161 = .ok (.bipush 10, 2) := by decide +kernel
theorem dX7_write_163 : decode cX7_write 163 = .ok (.invokevirtual 74, 3) := by decide +kernel
theorem dX7_write_166 : decode cX7_write 166 = .ok (.iadd, 1) := by decide +kernel
theorem dX7_write_167 : decode cX7_write 167 = .ok (.invokevirtual 71, 3) := by decide +kernel
theorem dX7_write_170 : decode cX7_write 170 = .ok (.iinc 5 1, 3) := by decide +kernel
theorem dX7_write_173 : decode cX7_write 173 = .ok (.goto (-58), 3) := by decide +kernel
theorem dX7_write_176 : decode cX7_write 176 = .ok (.iload 4, 2) := by decide +kernel
theorem dX7_write_178 : decode cX7_write 178 = .ok (.ifCond .eq 9, 3) := by decide +kernel
theorem dX7_write_181 : decode cX7_write 181 = .ok (.aload_n 0, 1) := by decide +kernel
theorem dX7_write_182 : decode cX7_write 182 = .ok (.bipush 45, 2) := by decide +kernel
theorem dX7_write_184 : decode cX7_write 184 = .ok (.invokevirtual 71, 3) := by decide +kernel
theorem dX7_write_187 : decode cX7_write 187 = .ok (.return_, 1) := by decide +kernel
theorem dX7_append_0 : decode cX7_append 0 = .ok (.aload_n 0, 1) := by decide +kernel
theorem dX7_append_1 : decode cX7_append 1 = .ok (.getfield 67, 3) := by decide +kernel
theorem dX7_append_4 : decode cX7_append 4 = .ok (.aload_n 0, 1) := by decide +kernel
theorem dX7_append_5 : decode cX7_append 5 = .ok (.getfield 22, 3) := by decide +kernel
theorem dX7_append_8 : decode cX7_append 8 = .ok (.arraylength, 1) := by decide +kernel
theorem dX7_append_9 : decode cX7_append 9 = .ok (.if_icmp .ge 24, 3) := by decide +kernel
theorem dX7_append_12 : decode cX7_append 12 = .ok (.aload_n 0, 1) := by decide +kernel
theorem dX7_append_13 : decode cX7_append 13 = .ok (.getfield 22, 3) := by decide +kernel
theorem dX7_append_16 : decode cX7_append 16 = .ok (.aload_n 0, 1) := by decide +kernel
theorem dX7_append_17 : decode cX7_append 17 = .ok (.getfield 67, 3) := by decide +kernel
theorem dX7_append_20 : decode cX7_append 20 = .ok (.iload_n 1, 1) := by decide +kernel
theorem dX7_append_21 : decode cX7_append 21 = .ok (.i2b, 1) := by decide +kernel
theorem dX7_append_22 : decode cX7_append 22 = .ok (.bastore, 1) := by decide +kernel
theorem dX7_append_23 : decode cX7_append 23 = .ok (.aload_n 0, 1) := by decide +kernel
theorem dX7_append_24 : decode cX7_append 24 = .ok (.dup, 1) := by decide +kernel
theorem dX7_append_25 : decode cX7_append 25 = .ok (.getfield 67, 3) := by decide +kernel
theorem dX7_append_28 : decode cX7_append 28 = .ok (.iconst 1, 1) := by decide +kernel
theorem dX7_append_29 : decode cX7_append 29 = .ok (.iadd, 1) := by decide +kernel
theorem dX7_append_30 : decode cX7_append 30 = .ok (.putfield 67, 3) := by decide +kernel
theorem dX7_append_33 : decode cX7_append 33 = .ok (.return_, 1) := by decide +kernel
theorem dX8_init_0 : decode cX8_init 0 = .ok (.aload_n 0, 1) := by decide +kernel
theorem dX8_init_1 : decode cX8_init 1 = .ok (.invokespecial 1, 3) := by decide +kernel
theorem dX8_init_4 : decode cX8_init 4 = .ok (.aload_n 0, 1) := by decide +kernel
theorem dX8_init_5 : decode cX8_init 5 = .ok (.bipush 16, 2) := by decide +kernel
theorem dX8_init_7 : decode cX8_init 7 = .ok (.newarray .int, 2) := by decide +kernel
theorem dX8_init_9 : decode cX8_init 9 = .ok (.putfield 9, 3) := by decide +kernel
theorem dX8_init_12 : decode cX8_init 12 = .ok (.return_, 1) := by decide +kernel
theorem dX8_copy_0 : decode cX8_copy 0 = .ok (.aload_n 1, 1) := by decide +kernel
theorem dX8_copy_1 : decode cX8_copy 1 = .ok (.getfield 9, 3) := by decide +kernel
theorem dX8_copy_4 : decode cX8_copy 4 = .ok (.iconst 0, 1) := by decide +kernel
theorem dX8_copy_5 : decode cX8_copy 5 = .ok (.aload_n 0, 1) := by decide +kernel
theorem dX8_copy_6 : decode cX8_copy 6 = .ok (.getfield 9, 3) := by decide +kernel
theorem dX8_copy_9 : decode cX8_copy 9 = .ok (.iconst 0, 1) := by decide +kernel
theorem dX8_copy_10 : decode cX8_copy 10 = .ok (.bipush 16, 2) := by decide +kernel
theorem dX8_copy_12 : decode cX8_copy 12 = .ok (.invokestatic 13, 3) := by decide +kernel
theorem dX8_copy_15 : decode cX8_copy 15 = .ok (.aload_n 0, 1) := by decide +kernel
theorem dX8_copy_16 : decode cX8_copy 16 = .ok (.aload_n 1, 1) := by decide +kernel
theorem dX8_copy_17 : decode cX8_copy 17 = .ok (.getfield 19, 3) := by decide +kernel
theorem dX8_copy_20 : decode cX8_copy 20 = .ok (.putfield 19, 3) := by decide +kernel
theorem dX8_copy_23 : decode cX8_copy 23 = .ok (.return_, 1) := by decide +kernel
theorem dX8_setBits_0 : decode cX8_setBits 0 = .ok (.iconst 2, 1) := by decide +kernel
theorem dX8_setBits_1 : decode cX8_setBits 1 = .ok (.istore_n 3, 1) := by decide +kernel
theorem dX8_setBits_2 : decode cX8_setBits 2 = .ok (.iload_n 3, 1) := by decide +kernel
theorem dX8_setBits_3 : decode cX8_setBits 3 = .ok (.aload_n 0, 1) := by decide +kernel
theorem dX8_setBits_4 : decode cX8_setBits 4 = .ok (.getfield 19, 3) := by decide +kernel
theorem dX8_setBits_7 : decode cX8_setBits 7 = .ok (.if_icmp .ge 16, 3) := by decide +kernel
theorem dX8_setBits_10 : decode cX8_setBits 10 = .ok (.aload_n 0, 1) := by decide +kernel
theorem dX8_setBits_11 : decode cX8_setBits 11 = .ok (.getfield 9, 3) := by decide +kernel
theorem dX8_setBits_14 : decode cX8_setBits 14 = .ok (.iload_n 3, 1) := by decide +kernel
theorem dX8_setBits_15 : decode cX8_setBits 15 = .ok (.iconst 0, 1) := by decide +kernel
theorem dX8_setBits_16 : decode cX8_setBits 16 = .ok (.iastore, 1) := by decide +kernel
theorem dX8_setBits_17 : decode cX8_setBits 17 = .ok (.iinc 3 1, 3) := by decide +kernel
theorem dX8_setBits_20 : decode cX8_setBits 20 = .ok (.goto (-18), 3) := by decide +kernel
theorem dX8_setBits_23 : decode cX8_setBits 23 = .ok (.aload_n 0, 1) := by decide +kernel
theorem dX8_setBits_24 : decode cX8_setBits 24 = .ok (.getfield 9, 3) := by decide +kernel
theorem dX8_setBits_27 : decode cX8_setBits 27 = .ok (.iconst 0, 1) := by decide +kernel
theorem dX8_setBits_28 : decode cX8_setBits 28 = .ok (.lload_n 1, 1) := by decide +kernel
theorem dX8_setBits_29 : decode cX8_setBits 29 = .ok (.l2i, 1) := by decide +kernel
theorem dX8_setBits_30 : decode cX8_setBits 30 = .ok (.iastore, 1) := by decide +kernel
theorem dX8_setBits_31 : decode cX8_setBits 31 = .ok (.aload_n 0, 1) := by decide +kernel
theorem dX8_setBits_32 : decode cX8_setBits 32 = .ok (.getfield 9, 3) := by decide +kernel
theorem dX8_setBits_35 : decode cX8_setBits 35 = .ok (.iconst 1, 1) := by decide +kernel
theorem dX8_setBits_36 : decode cX8_setBits 36 = .ok (.lload_n 1, 1) := by decide +kernel
theorem dX8_setBits_37 : decode cX8_setBits 37 = .ok (.bipush 32, 2) := by decide +kernel
theorem dX8_setBits_39 : decode cX8_setBits 39 = .ok (.lushr, 1) := by decide +kernel
theorem dX8_setBits_40 : decode cX8_setBits 40 = .ok (.l2i, 1) := by decide +kernel
theorem dX8_setBits_41 : decode cX8_setBits 41 = .ok (.iastore, 1) := by decide +kernel
theorem dX8_setBits_42 : decode cX8_setBits 42 = .ok (.aload_n 0, 1) := by decide +kernel
theorem dX8_setBits_43 : decode cX8_setBits 43 = .ok (.aload_n 0, 1) := by decide +kernel
theorem dX8_setBits_44 : decode cX8_setBits 44 = .ok (.getfield 9, 3) := by decide +kernel
theorem dX8_setBits_47 : decode cX8_setBits 47 = .ok (.iconst 1, 1) := by decide +kernel
theorem dX8_setBits_48 : decode cX8_setBits 48 = .ok (.iaload, 1) := by decide +kernel
theorem dX8_setBits_49 : decode cX8_setBits 49 = .ok (.ifCond .eq 7, 3) := by decide +kernel
theorem dX8_setBits_52 : decode cX8_setBits 52 = .ok (.iconst 2, 1) := by decide +kernel
theorem dX8_setBits_53 : decode cX8_setBits 53 = .ok (.goto 17, 3) := by decide +kernel
theorem dX8_setBits_56 : decode cX8_setBits 56 = .ok (.aload_n 0, 1) := by decide +kernel
theorem dX8_setBits_57 : decode cX8_setBits 57 = .ok (.getfield 9, 3) := by decide +kernel
theorem dX8_setBits_60 : decode cX8_setBits 60 = .ok (.iconst 0, 1) := by decide +kernel
theorem dX8_setBits_61 : decode cX8_setBits 61 = .ok (.iaload, 1) := by decide +kernel
theorem dX8_setBits_62 : decode cX8_setBits 62 = .ok (.ifCond .eq 7, 3) := by decide +kernel
theorem dX8_setBits_65 : decode cX8_setBits 65 = .ok (.iconst 1, 1) := by decide +kernel
theorem dX8_setBits_66 : decode cX8_setBits 66 = .ok (.goto 4, 3) := by decide +kernel
theorem dX8_setBits_69 : decode cX8_setBits 69 = .ok (.iconst 0, 1) := by decide +kernel
theorem dX8_setBits_70 : decode cX8_setBits 70 = .ok (.putfield 19, 3) := by decide +kernel
theorem dX8_setBits_73 : decode cX8_setBits 73 = .ok (.return_, 1) := by decide +kernel
theorem dX8_isZero_0 : decode cX8_isZero 0 = .ok (.aload_n 0, 1) := by decide +kernel
theorem dX8_isZero_1 : decode cX8_isZero 1 = .ok (.getfield 19, 3) := by decide +kernel
theorem dX8_isZero_4 : decode cX8_isZero 4 = .ok (.ifCond .ne 7, 3) := by decide +kernel
theorem dX8_isZero_7 : decode cX8_isZero 7 = .ok (.iconst 1, 1) := by decide +kernel
theorem dX8_isZero_8 : decode cX8_isZero 8 = .ok (.goto 4, 3) := by decide +kernel
theorem dX8_isZero_11 : decode cX8_isZero 11 = .ok (.iconst 0, 1) := by decide +kernel
theorem dX8_isZero_12 : decode cX8_isZero 12 = .ok (.ireturn, 1) := by decide +kernel
theorem dX8_isOne_0 : decode cX8_isOne 0 = .ok (.aload_n 0, 1) := by decide +kernel
theorem dX8_isOne_1 : decode cX8_isOne 1 = .ok (.getfield 19, 3) := by decide +kernel
theorem dX8_isOne_4 : decode cX8_isOne 4 = .ok (.iconst 1, 1) := by decide +kernel
theorem dX8_isOne_5 : decode cX8_isOne 5 = .ok (.if_icmp .ne 17, 3) := by decide +kernel
theorem dX8_isOne_8 : decode cX8_isOne 8 = .ok (.aload_n 0, 1) := by decide +kernel
theorem dX8_isOne_9 : decode cX8_isOne 9 = .ok (.getfield 9, 3) := by decide +kernel
theorem dX8_isOne_12 : decode cX8_isOne 12 = .ok (.iconst 0, 1) := by decide +kernel
theorem dX8_isOne_13 : decode cX8_isOne 13 = .ok (.iaload, 1) := by decide +kernel
theorem dX8_isOne_14 : decode cX8_isOne 14 = .ok (.iconst 1, 1) := by decide +kernel
theorem dX8_isOne_15 : decode cX8_isOne 15 = .ok (.if_icmp .ne 7, 3) := by decide +kernel
theorem dX8_isOne_18 : decode cX8_isOne 18 = .ok (.iconst 1, 1) := by decide +kernel
theorem dX8_isOne_19 : decode cX8_isOne 19 = .ok (.goto 4, 3) := by decide +kernel
theorem dX8_isOne_22 : decode cX8_isOne 22 = .ok (.iconst 0, 1) := by decide +kernel
theorem dX8_isOne_23 : decode cX8_isOne 23 = .ok (.ireturn, 1) := by decide +kernel
theorem dX8_isWide_0 : decode cX8_isWide 0 = .ok (.aload_n 0, 1) := by decide +kernel
theorem dX8_isWide_1 : decode cX8_isWide 1 = .ok (.getfield 19, 3) := by decide +kernel
theorem dX8_isWide_4 : decode cX8_isWide 4 = .ok (.bipush 6, 2) := by decide +kernel
theorem dX8_isWide_6 : decode cX8_isWide 6 = .ok (.if_icmp .gt 7, 3) := by decide +kernel
theorem dX8_isWide_9 : decode cX8_isWide 9 = .ok (.iconst 1, 1) := by decide +kernel
theorem dX8_isWide_10 : decode cX8_isWide 10 = .ok (.goto 4, 3) := by decide +kernel
theorem dX8_isWide_13 : decode cX8_isWide 13 = .ok (.iconst 0, 1) := by decide +kernel
theorem dX8_isWide_14 : decode cX8_isWide 14 = .ok (.ireturn, 1) := by decide +kernel
theorem dX8_fitsLong_0 : decode cX8_fitsLong 0 = .ok (.aload_n 0, 1) := by decide +kernel
theorem dX8_fitsLong_1 : decode cX8_fitsLong 1 = .ok (.getfield 19, 3) := by decide +kernel
theorem dX8_fitsLong_4 : decode cX8_fitsLong 4 = .ok (.iconst 2, 1) := by decide +kernel
theorem dX8_fitsLong_5 : decode cX8_fitsLong 5 = .ok (.if_icmp .lt 20, 3) := by decide +kernel
theorem dX8_fitsLong_8 : decode cX8_fitsLong 8 = .ok (.aload_n 0, 1) := by decide +kernel
theorem dX8_fitsLong_9 : decode cX8_fitsLong 9 = .ok (.getfield 19, 3) := by decide +kernel
theorem dX8_fitsLong_12 : decode cX8_fitsLong 12 = .ok (.iconst 2, 1) := by decide +kernel
theorem dX8_fitsLong_13 : decode cX8_fitsLong 13 = .ok (.if_icmp .ne 16, 3) := by decide +kernel
theorem dX8_fitsLong_16 : decode cX8_fitsLong 16 = .ok (.aload_n 0, 1) := by decide +kernel
theorem dX8_fitsLong_17 : decode cX8_fitsLong 17 = .ok (.getfield 9, 3) := by decide +kernel
theorem dX8_fitsLong_20 : decode cX8_fitsLong 20 = .ok (.iconst 1, 1) := by decide +kernel
theorem dX8_fitsLong_21 : decode cX8_fitsLong 21 = .ok (.iaload, 1) := by decide +kernel
theorem dX8_fitsLong_22 : decode cX8_fitsLong 22 = .ok (.ifCond .lt 7, 3) := by decide +kernel
theorem dX8_fitsLong_25 : decode cX8_fitsLong 25 = .ok (.iconst 1, 1) := by decide +kernel
theorem dX8_fitsLong_26 : decode cX8_fitsLong 26 = .ok (.goto 4, 3) := by decide +kernel
theorem dX8_fitsLong_29 : decode cX8_fitsLong 29 = .ok (.iconst 0, 1) := by decide +kernel
theorem dX8_fitsLong_30 : decode cX8_fitsLong 30 = .ok (.ireturn, 1) := by decide +kernel
theorem dX8_toLong_0 : decode cX8_toLong 0 = .ok (.aload_n 0, 1) := by decide +kernel
theorem dX8_toLong_1 : decode cX8_toLong 1 = .ok (.getfield 9, 3) := by decide +kernel
theorem dX8_toLong_4 : decode cX8_toLong 4 = .ok (.iconst 1, 1) := by decide +kernel
theorem dX8_toLong_5 : decode cX8_toLong 5 = .ok (.iaload, 1) := by decide +kernel
theorem dX8_toLong_6 : decode cX8_toLong 6 = .ok (.i2l, 1) := by decide +kernel
theorem dX8_toLong_7 : decode cX8_toLong 7 = .ok (.ldc2_w 23, 3) := by decide +kernel
theorem dX8_toLong_10 : decode cX8_toLong 10 = .ok (.land, 1) := by decide +kernel
theorem dX8_toLong_11 : decode cX8_toLong 11 = .ok (.bipush 32, 2) := by decide +kernel
theorem dX8_toLong_13 : decode cX8_toLong 13 = .ok (.lshl, 1) := by decide +kernel
theorem dX8_toLong_14 : decode cX8_toLong 14 = .ok (.aload_n 0, 1) := by decide +kernel
theorem dX8_toLong_15 : decode cX8_toLong 15 = .ok (.getfield 9, 3) := by decide +kernel
theorem dX8_toLong_18 : decode cX8_toLong 18 = .ok (.iconst 0, 1) := by decide +kernel
theorem dX8_toLong_19 : decode cX8_toLong 19 = .ok (.iaload, 1) := by decide +kernel
theorem dX8_toLong_20 : decode cX8_toLong 20 = .ok (.i2l, 1) := by decide +kernel
theorem dX8_toLong_21 : decode cX8_toLong 21 = .ok (.ldc2_w 23, 3) := by decide +kernel
theorem dX8_toLong_24 : decode cX8_toLong 24 = .ok (.land, 1) := by decide +kernel
theorem dX8_toLong_25 : decode cX8_toLong 25 = .ok (.lor, 1) := by decide +kernel
theorem dX8_toLong_26 : decode cX8_toLong 26 = .ok (.lreturn, 1) := by decide +kernel
theorem dX8_bits_0 : decode cX8_bits 0 = .ok (.aload_n 0, 1) := by decide +kernel
theorem dX8_bits_1 : decode cX8_bits 1 = .ok (.getfield 19, 3) := by decide +kernel
theorem dX8_bits_4 : decode cX8_bits 4 = .ok (.ifCond .ne 7, 3) := by decide +kernel
theorem dX8_bits_7 : decode cX8_bits 7 = .ok (.iconst 0, 1) := by decide +kernel
theorem dX8_bits_8 : decode cX8_bits 8 = .ok (.goto 25, 3) := by decide +kernel
theorem dX8_bits_11 : decode cX8_bits 11 = .ok (.bipush 32, 2) := by decide +kernel
theorem dX8_bits_13 : decode cX8_bits 13 = .ok (.aload_n 0, 1) := by decide +kernel
theorem dX8_bits_14 : decode cX8_bits 14 = .ok (.getfield 19, 3) := by decide +kernel
theorem dX8_bits_17 : decode cX8_bits 17 = .ok (.imul, 1) := by decide +kernel
theorem dX8_bits_18 : decode cX8_bits 18 = .ok (.aload_n 0, 1) := by decide +kernel
theorem dX8_bits_19 : decode cX8_bits 19 = .ok (.getfield 9, 3) := by decide +kernel
theorem dX8_bits_22 : decode cX8_bits 22 = .ok (.aload_n 0, 1) := by decide +kernel
theorem dX8_bits_23 : decode cX8_bits 23 = .ok (.getfield 19, 3) := by decide +kernel
theorem dX8_bits_26 : decode cX8_bits 26 = .ok (.iconst 1, 1) := by decide +kernel
theorem dX8_bits_27 : decode cX8_bits 27 = .ok (.isub, 1) := by decide +kernel
theorem dX8_bits_28 : decode cX8_bits 28 = .ok (.iaload, 1) := by decide +kernel
theorem dX8_bits_29 : decode cX8_bits 29 = .ok (.invokestatic 25, 3) := by decide +kernel
theorem dX8_bits_32 : decode cX8_bits 32 = .ok (.isub, 1) := by decide +kernel
theorem dX8_bits_33 : decode cX8_bits 33 = .ok (.ireturn, 1) := by decide +kernel
theorem dX8_against_0 : decode cX8_against 0 = .ok (.aload_n 0, 1) := by decide +kernel
theorem dX8_against_1 : decode cX8_against 1 = .ok (.getfield 19, 3) := by decide +kernel
theorem dX8_against_4 : decode cX8_against 4 = .ok (.aload_n 1, 1) := by decide +kernel
theorem dX8_against_5 : decode cX8_against 5 = .ok (.getfield 19, 3) := by decide +kernel
theorem dX8_against_8 : decode cX8_against 8 = .ok (.if_icmp .eq 20, 3) := by decide +kernel
theorem dX8_against_11 : decode cX8_against 11 = .ok (.aload_n 0, 1) := by decide +kernel
theorem dX8_against_12 : decode cX8_against 12 = .ok (.getfield 19, 3) := by decide +kernel
theorem dX8_against_15 : decode cX8_against 15 = .ok (.aload_n 1, 1) := by decide +kernel
theorem dX8_against_16 : decode cX8_against 16 = .ok (.getfield 19, 3) := by decide +kernel
theorem dX8_against_19 : decode cX8_against 19 = .ok (.if_icmp .ge 7, 3) := by decide +kernel
theorem dX8_against_22 : decode cX8_against 22 = .ok (.iconst (-1), 1) := by decide +kernel
theorem dX8_against_23 : decode cX8_against 23 = .ok (.goto 4, 3) := by decide +kernel
theorem dX8_against_26 : decode cX8_against 26 = .ok (.iconst 1, 1) := by decide +kernel
theorem dX8_against_27 : decode cX8_against 27 = .ok (.ireturn, 1) := by decide +kernel
theorem dX8_against_28 : decode cX8_against 28 = .ok (.aload_n 0, 1) := by decide +kernel
theorem dX8_against_29 : decode cX8_against 29 = .ok (.getfield 19, 3) := by decide +kernel
theorem dX8_against_32 : decode cX8_against 32 = .ok (.iconst 1, 1) := by decide +kernel
theorem dX8_against_33 : decode cX8_against 33 = .ok (.isub, 1) := by decide +kernel
theorem dX8_against_34 : decode cX8_against 34 = .ok (.istore_n 2, 1) := by decide +kernel
theorem dX8_against_35 : decode cX8_against 35 = .ok (.iload_n 2, 1) := by decide +kernel
theorem dX8_against_36 : decode cX8_against 36 = .ok (.ifCond .lt 56, 3) := by decide +kernel
theorem dX8_against_39 : decode cX8_against 39 = .ok (.aload_n 0, 1) := by decide +kernel
theorem dX8_against_40 : decode cX8_against 40 = .ok (.getfield 9, 3) := by decide +kernel
theorem dX8_against_43 : decode cX8_against 43 = .ok (.iload_n 2, 1) := by decide +kernel
theorem dX8_against_44 : decode cX8_against 44 = .ok (.iaload, 1) := by decide +kernel
theorem dX8_against_45 : decode cX8_against 45 = .ok (.aload_n 1, 1) := by decide +kernel
theorem dX8_against_46 : decode cX8_against 46 = .ok (.getfield 9, 3) := by decide +kernel
theorem dX8_against_49 : decode cX8_against 49 = .ok (.iload_n 2, 1) := by decide +kernel
theorem dX8_against_50 : decode cX8_against 50 = .ok (.iaload, 1) := by decide +kernel
theorem dX8_against_51 : decode cX8_against 51 = .ok (.if_icmp .eq 35, 3) := by decide +kernel
theorem dX8_against_54 : decode cX8_against 54 = .ok (.aload_n 0, 1) := by decide +kernel
theorem dX8_against_55 : decode cX8_against 55 = .ok (.getfield 9, 3) := by decide +kernel
theorem dX8_against_58 : decode cX8_against 58 = .ok (.iload_n 2, 1) := by decide +kernel
theorem dX8_against_59 : decode cX8_against 59 = .ok (.iaload, 1) := by decide +kernel
theorem dX8_against_60 : decode cX8_against 60 = .ok (.i2l, 1) := by decide +kernel
theorem dX8_against_61 : decode cX8_against 61 = .ok (.ldc2_w 23, 3) := by decide +kernel
theorem dX8_against_64 : decode cX8_against 64 = .ok (.land, 1) := by decide +kernel
theorem dX8_against_65 : decode cX8_against 65 = .ok (.aload_n 1, 1) := by decide +kernel
theorem dX8_against_66 : decode cX8_against 66 = .ok (.getfield 9, 3) := by decide +kernel
theorem dX8_against_69 : decode cX8_against 69 = .ok (.iload_n 2, 1) := by decide +kernel
theorem dX8_against_70 : decode cX8_against 70 = .ok (.iaload, 1) := by decide +kernel
theorem dX8_against_71 : decode cX8_against 71 = .ok (.i2l, 1) := by decide +kernel
theorem dX8_against_72 : decode cX8_against 72 = .ok (.ldc2_w 23, 3) := by decide +kernel
theorem dX8_against_75 : decode cX8_against 75 = .ok (.land, 1) := by decide +kernel
theorem dX8_against_76 : decode cX8_against 76 = .ok (.lcmp, 1) := by decide +kernel
theorem dX8_against_77 : decode cX8_against 77 = .ok (.ifCond .ge 7, 3) := by decide +kernel
theorem dX8_against_80 : decode cX8_against 80 = .ok (.iconst (-1), 1) := by decide +kernel
theorem dX8_against_81 : decode cX8_against 81 = .ok (.goto 4, 3) := by decide +kernel
theorem dX8_against_84 : decode cX8_against 84 = .ok (.iconst 1, 1) := by decide +kernel
theorem dX8_against_85 : decode cX8_against 85 = .ok (.ireturn, 1) := by decide +kernel
theorem dX8_against_86 : decode cX8_against 86 = .ok (.iinc 2 (-1), 3) := by decide +kernel
theorem dX8_against_89 : decode cX8_against 89 = .ok (.goto (-54), 3) := by decide +kernel
theorem dX8_against_92 : decode cX8_against 92 = .ok (.iconst 0, 1) := by decide +kernel
theorem dX8_against_93 : decode cX8_against 93 = .ok (.ireturn, 1) := by decide +kernel
theorem dX8_increase_0 : decode cX8_increase 0 = .ok (.aload_n 0, 1) := by decide +kernel
theorem dX8_increase_1 : decode cX8_increase 1 = .ok (.getfield 19, 3) := by decide +kernel
theorem dX8_increase_4 : decode cX8_increase 4 = .ok (.aload_n 1, 1) := by decide +kernel
theorem dX8_increase_5 : decode cX8_increase 5 = .ok (.getfield 19, 3) := by decide +kernel
theorem dX8_increase_8 : decode cX8_increase 8 = .ok (.invokestatic 31, 3) := by decide +kernel
theorem dX8_increase_11 : decode cX8_increase 11 = .ok (.istore_n 2, 1) := by decide +kernel
theorem dX8_increase_12 : decode cX8_increase 12 = .ok (.lconst 0, 1) := by decide +kernel
theorem dX8_increase_13 : decode cX8_increase 13 = .ok (.lstore_n 3, 1) := by decide +kernel
theorem dX8_increase_14 : decode cX8_increase 14 = .ok (.iconst 0, 1) := by decide +kernel
theorem dX8_increase_15 : decode cX8_increase 15 = .ok (.istore 5, 2) := by decide +kernel
theorem dX8_increase_17 : decode cX8_increase 17 = .ok (.iload 5, 2) := by decide +kernel
theorem dX8_increase_19 : decode cX8_increase 19 = .ok (.iload_n 2, 1) := by decide +kernel
theorem dX8_increase_20 : decode cX8_increase 20 = .ok (.if_icmp .ge 51, 3) := by decide +kernel
theorem dX8_increase_23 : decode cX8_increase 23 = .ok (.lload_n 3, 1) := by decide +kernel
theorem dX8_increase_24 : decode cX8_increase 24 = .ok (.aload_n 0, 1) := by decide +kernel
theorem dX8_increase_25 : decode cX8_increase 25 = .ok (.getfield 9, 3) := by decide +kernel
theorem dX8_increase_28 : decode cX8_increase 28 = .ok (.iload 5, 2) := by decide +kernel
theorem dX8_increase_30 : decode cX8_increase 30 = .ok (.iaload, 1) := by decide +kernel
theorem dX8_increase_31 : decode cX8_increase 31 = .ok (.i2l, 1) := by decide +kernel
theorem dX8_increase_32 : decode cX8_increase 32 = .ok (.ldc2_w 23, 3) := by decide +kernel
theorem dX8_increase_35 : decode cX8_increase 35 = .ok (.land, 1) := by decide +kernel
theorem dX8_increase_36 : decode cX8_increase 36 = .ok (.aload_n 1, 1) := by decide +kernel
theorem dX8_increase_37 : decode cX8_increase 37 = .ok (.getfield 9, 3) := by decide +kernel
theorem dX8_increase_40 : decode cX8_increase 40 = .ok (.iload 5, 2) := by decide +kernel
theorem dX8_increase_42 : decode cX8_increase 42 = .ok (.iaload, 1) := by decide +kernel
theorem dX8_increase_43 : decode cX8_increase 43 = .ok (.i2l, 1) := by decide +kernel
theorem dX8_increase_44 : decode cX8_increase 44 = .ok (.ldc2_w 23, 3) := by decide +kernel
theorem dX8_increase_47 : decode cX8_increase 47 = .ok (.land, 1) := by decide +kernel
theorem dX8_increase_48 : decode cX8_increase 48 = .ok (.ladd, 1) := by decide +kernel
theorem dX8_increase_49 : decode cX8_increase 49 = .ok (.ladd, 1) := by decide +kernel
theorem dX8_increase_50 : decode cX8_increase 50 = .ok (.lstore_n 3, 1) := by decide +kernel
theorem dX8_increase_51 : decode cX8_increase 51 = .ok (.aload_n 0, 1) := by decide +kernel
theorem dX8_increase_52 : decode cX8_increase 52 = .ok (.getfield 9, 3) := by decide +kernel
theorem dX8_increase_55 : decode cX8_increase 55 = .ok (.iload 5, 2) := by decide +kernel
theorem dX8_increase_57 : decode cX8_increase 57 = .ok (.lload_n 3, 1) := by decide +kernel
theorem dX8_increase_58 : decode cX8_increase 58 = .ok (.l2i, 1) := by decide +kernel
theorem dX8_increase_59 : decode cX8_increase 59 = .ok (.iastore, 1) := by decide +kernel
theorem dX8_increase_60 : decode cX8_increase 60 = .ok (.lload_n 3, 1) := by decide +kernel
theorem dX8_increase_61 : decode cX8_increase 61 = .ok (.bipush 32, 2) := by decide +kernel
theorem dX8_increase_63 : decode cX8_increase 63 = .ok (.lushr, 1) := by decide +kernel
theorem dX8_increase_64 : decode cX8_increase 64 = .ok (.lstore_n 3, 1) := by decide +kernel
theorem dX8_increase_65 : decode cX8_increase 65 = .ok (.iinc 5 1, 3) := by decide +kernel
theorem dX8_increase_68 : decode cX8_increase 68 = .ok (.goto (-51), 3) := by decide +kernel
theorem dX8_increase_71 : decode cX8_increase 71 = .ok (.aload_n 0, 1) := by decide +kernel
theorem dX8_increase_72 : decode cX8_increase 72 = .ok (.iload_n 2, 1) := by decide +kernel
theorem dX8_increase_73 : decode cX8_increase 73 = .ok (.putfield 19, 3) := by decide +kernel
theorem dX8_increase_76 : decode cX8_increase 76 = .ok (.aload_n 0, 1) := by decide +kernel
theorem dX8_increase_77 : decode cX8_increase 77 = .ok (.lload_n 3, 1) := by decide +kernel
theorem dX8_increase_78 : decode cX8_increase 78 = .ok (.l2i, 1) := by decide +kernel
theorem dX8_increase_79 : decode cX8_increase 79 = .ok (.invokevirtual 37, 3) := by decide +kernel
theorem dX8_increase_82 : decode cX8_increase 82 = .ok (.return_, 1) := by decide +kernel
theorem dX8_decrease_0 : decode cX8_decrease 0 = .ok (.lconst 0, 1) := by decide +kernel
theorem dX8_decrease_1 : decode cX8_decrease 1 = .ok (.lstore_n 2, 1) := by decide +kernel
theorem dX8_decrease_2 : decode cX8_decrease 2 = .ok (.iconst 0, 1) := by decide +kernel
theorem dX8_decrease_3 : decode cX8_decrease 3 = .ok (.istore 4, 2) := by decide +kernel
theorem dX8_decrease_5 : decode cX8_decrease 5 = .ok (.iload 4, 2) := by decide +kernel
theorem dX8_decrease_7 : decode cX8_decrease 7 = .ok (.aload_n 0, 1) := by decide +kernel
theorem dX8_decrease_8 : decode cX8_decrease 8 = .ok (.getfield 19, 3) := by decide +kernel
theorem dX8_decrease_11 : decode cX8_decrease 11 = .ok (.if_icmp .ge 51, 3) := by decide +kernel
theorem dX8_decrease_14 : decode cX8_decrease 14 = .ok (.lload_n 2, 1) := by decide +kernel
theorem dX8_decrease_15 : decode cX8_decrease 15 = .ok (.aload_n 0, 1) := by decide +kernel
theorem dX8_decrease_16 : decode cX8_decrease 16 = .ok (.getfield 9, 3) := by decide +kernel
theorem dX8_decrease_19 : decode cX8_decrease 19 = .ok (.iload 4, 2) := by decide +kernel
theorem dX8_decrease_21 : decode cX8_decrease 21 = .ok (.iaload, 1) := by decide +kernel
theorem dX8_decrease_22 : decode cX8_decrease 22 = .ok (.i2l, 1) := by decide +kernel
theorem dX8_decrease_23 : decode cX8_decrease 23 = .ok (.ldc2_w 23, 3) := by decide +kernel
theorem dX8_decrease_26 : decode cX8_decrease 26 = .ok (.land, 1) := by decide +kernel
theorem dX8_decrease_27 : decode cX8_decrease 27 = .ok (.aload_n 1, 1) := by decide +kernel
theorem dX8_decrease_28 : decode cX8_decrease 28 = .ok (.getfield 9, 3) := by decide +kernel
theorem dX8_decrease_31 : decode cX8_decrease 31 = .ok (.iload 4, 2) := by decide +kernel
theorem dX8_decrease_33 : decode cX8_decrease 33 = .ok (.iaload, 1) := by decide +kernel
theorem dX8_decrease_34 : decode cX8_decrease 34 = .ok (.i2l, 1) := by decide +kernel
theorem dX8_decrease_35 : decode cX8_decrease 35 = .ok (.ldc2_w 23, 3) := by decide +kernel
theorem dX8_decrease_38 : decode cX8_decrease 38 = .ok (.land, 1) := by decide +kernel
theorem dX8_decrease_39 : decode cX8_decrease 39 = .ok (.lsub, 1) := by decide +kernel
theorem dX8_decrease_40 : decode cX8_decrease 40 = .ok (.ladd, 1) := by decide +kernel
theorem dX8_decrease_41 : decode cX8_decrease 41 = .ok (.lstore_n 2, 1) := by decide +kernel
theorem dX8_decrease_42 : decode cX8_decrease 42 = .ok (.aload_n 0, 1) := by decide +kernel
theorem dX8_decrease_43 : decode cX8_decrease 43 = .ok (.getfield 9, 3) := by decide +kernel
theorem dX8_decrease_46 : decode cX8_decrease 46 = .ok (.iload 4, 2) := by decide +kernel
theorem dX8_decrease_48 : decode cX8_decrease 48 = .ok (.lload_n 2, 1) := by decide +kernel
theorem dX8_decrease_49 : decode cX8_decrease 49 = .ok (.l2i, 1) := by decide +kernel
theorem dX8_decrease_50 : decode cX8_decrease 50 = .ok (.iastore, 1) := by decide +kernel
theorem dX8_decrease_51 : decode cX8_decrease 51 = .ok (.lload_n 2, 1) := by decide +kernel
theorem dX8_decrease_52 : decode cX8_decrease 52 = .ok (.bipush 32, 2) := by decide +kernel
theorem dX8_decrease_54 : decode cX8_decrease 54 = .ok (.lshr, 1) := by decide +kernel
theorem dX8_decrease_55 : decode cX8_decrease 55 = .ok (.lstore_n 2, 1) := by decide +kernel
theorem dX8_decrease_56 : decode cX8_decrease 56 = .ok (.iinc 4 1, 3) := by decide +kernel
theorem dX8_decrease_59 : decode cX8_decrease 59 = .ok (.goto (-54), 3) := by decide +kernel
theorem dX8_decrease_62 : decode cX8_decrease 62 = .ok (.aload_n 0, 1) := by decide +kernel
theorem dX8_decrease_63 : decode cX8_decrease 63 = .ok (.invokevirtual 41, 3) := by decide +kernel
theorem dX8_decrease_66 : decode cX8_decrease 66 = .ok (.return_, 1) := by decide +kernel
theorem dX8_setProduct_0 : decode cX8_setProduct 0 = .ok (.aload_n 0, 1) := by decide +kernel
theorem dX8_setProduct_1 : decode cX8_setProduct 1 = .ok (.lconst 0, 1) := by decide +kernel
theorem dX8_setProduct_2 : decode cX8_setProduct 2 = .ok (.invokevirtual 44, 3) := by decide +kernel
theorem dX8_setProduct_5 : decode cX8_setProduct 5 = .ok (.aload_n 1, 1) := by decide +kernel
theorem dX8_setProduct_6 : decode cX8_setProduct 6 = .ok (.getfield 19, 3) := by decide +kernel
theorem dX8_setProduct_9 : decode cX8_setProduct 9 = .ok (.aload_n 2, 1) := by decide +kernel
theorem dX8_setProduct_10 : decode cX8_setProduct 10 = .ok (.getfield 19, 3) := by decide +kernel
theorem dX8_setProduct_13 : decode cX8_setProduct 13 = .ok (.iadd, 1) := by decide +kernel
theorem dX8_setProduct_14 : decode cX8_setProduct 14 = .ok (.bipush 16, 2) := by decide +kernel
theorem dX8_setProduct_16 : decode cX8_setProduct 16 = .ok (.if_icmp .le 4, 3) := by decide +kernel
theorem dX8_setProduct_19 : decode cX8_setProduct 19 = .ok (.return_, 1) := by decide +kernel
theorem dX8_setProduct_20 : decode cX8_setProduct 20 = .ok (.iconst 0, 1) := by decide +kernel
theorem dX8_setProduct_21 : decode cX8_setProduct 21 = .ok (.istore_n 3, 1) := by decide +kernel
theorem dX8_setProduct_22 : decode cX8_setProduct 22 = .ok (.iload_n 3, 1) := by decide +kernel
theorem dX8_setProduct_23 : decode cX8_setProduct 23 = .ok (.aload_n 1, 1) := by decide +kernel
theorem dX8_setProduct_24 : decode cX8_setProduct 24 = .ok (.getfield 19, 3) := by decide +kernel
theorem dX8_setProduct_27 : decode cX8_setProduct 27 = .ok (.if_icmp .ge 111, 3) := by decide +kernel
theorem dX8_setProduct_30 : decode cX8_setProduct 30 = .ok (.aload_n 1, 1) := by decide +kernel
theorem dX8_setProduct_31 : decode cX8_setProduct 31 = .ok (.getfield 9, 3) := by decide +kernel
theorem dX8_setProduct_34 : decode cX8_setProduct 34 = .ok (.iload_n 3, 1) := by decide +kernel
theorem dX8_setProduct_35 : decode cX8_setProduct 35 = .ok (.iaload, 1) := by decide +kernel
theorem dX8_setProduct_36 : decode cX8_setProduct 36 = .ok (.i2l, 1) := by decide +kernel
theorem dX8_setProduct_37 : decode cX8_setProduct 37 = .ok (.ldc2_w 23, 3) := by decide +kernel
theorem dX8_setProduct_40 : decode cX8_setProduct 40 = .ok (.land, 1) := by decide +kernel
theorem dX8_setProduct_41 : decode cX8_setProduct 41 = .ok (.lstore 4, 2) := by decide +kernel
theorem dX8_setProduct_43 : decode cX8_setProduct 43 = .ok (.lconst 0, 1) := by decide +kernel
theorem dX8_setProduct_44 : decode cX8_setProduct 44 = .ok (.lstore 6, 2) := by decide +kernel
theorem dX8_setProduct_46 : decode cX8_setProduct 46 = .ok (.iconst 0, 1) := by decide +kernel
theorem dX8_setProduct_47 : decode cX8_setProduct 47 = .ok (.istore 8, 2) := by decide +kernel
theorem dX8_setProduct_49 : decode cX8_setProduct 49 = .ok (.iload 8, 2) := by decide +kernel
theorem dX8_setProduct_51 : decode cX8_setProduct 51 = .ok (.aload_n 2, 1) := by decide +kernel
theorem dX8_setProduct_52 : decode cX8_setProduct 52 = .ok (.getfield 19, 3) := by decide +kernel
theorem dX8_setProduct_55 : decode cX8_setProduct 55 = .ok (.if_icmp .ge 63, 3) := by decide +kernel
theorem dX8_setProduct_58 : decode cX8_setProduct 58 = .ok (.lload 6, 2) := by decide +kernel
theorem dX8_setProduct_60 : decode cX8_setProduct 60 = .ok (.lload 4, 2) := by decide +kernel
theorem dX8_setProduct_62 : decode cX8_setProduct 62 = .ok (.aload_n 2, 1) := by decide +kernel
theorem dX8_setProduct_63 : decode cX8_setProduct 63 = .ok (.getfield 9, 3) := by decide +kernel
theorem dX8_setProduct_66 : decode cX8_setProduct 66 = .ok (.iload 8, 2) := by decide +kernel
theorem dX8_setProduct_68 : decode cX8_setProduct 68 = .ok (.iaload, 1) := by decide +kernel
theorem dX8_setProduct_69 : decode cX8_setProduct 69 = .ok (.i2l, 1) := by decide +kernel
theorem dX8_setProduct_70 : decode cX8_setProduct 70 = .ok (.ldc2_w 23, 3) := by decide +kernel
theorem dX8_setProduct_73 : decode cX8_setProduct 73 = .ok (.land, 1) := by decide +kernel
theorem dX8_setProduct_74 : decode cX8_setProduct 74 = .ok (.lmul, 1) := by decide +kernel
theorem dX8_setProduct_75 : decode cX8_setProduct 75 = .ok (.aload_n 0, 1) := by decide +kernel
theorem dX8_setProduct_76 : decode cX8_setProduct 76 = .ok (.getfield 9, 3) := by decide +kernel
theorem dX8_setProduct_79 : decode cX8_setProduct 79 = .ok (.iload_n 3, 1) := by decide +kernel
theorem dX8_setProduct_80 : decode cX8_setProduct 80 = .ok (.iload 8, 2) := by decide +kernel
theorem dX8_setProduct_82 : decode cX8_setProduct 82 = .ok (.iadd, 1) := by decide +kernel
theorem dX8_setProduct_83 : decode cX8_setProduct 83 = .ok (.iaload, 1) := by decide +kernel
theorem dX8_setProduct_84 : decode cX8_setProduct 84 = .ok (.i2l, 1) := by decide +kernel
theorem dX8_setProduct_85 : decode cX8_setProduct 85 = .ok (.ldc2_w 23, 3) := by decide +kernel
theorem dX8_setProduct_88 : decode cX8_setProduct 88 = .ok (.land, 1) := by decide +kernel
theorem dX8_setProduct_89 : decode cX8_setProduct 89 = .ok (.ladd, 1) := by decide +kernel
theorem dX8_setProduct_90 : decode cX8_setProduct 90 = .ok (.ladd, 1) := by decide +kernel
theorem dX8_setProduct_91 : decode cX8_setProduct 91 = .ok (.lstore 6, 2) := by decide +kernel
theorem dX8_setProduct_93 : decode cX8_setProduct 93 = .ok (.aload_n 0, 1) := by decide +kernel
theorem dX8_setProduct_94 : decode cX8_setProduct 94 = .ok (.getfield 9, 3) := by decide +kernel
theorem dX8_setProduct_97 : decode cX8_setProduct 97 = .ok (.iload_n 3, 1) := by decide +kernel
theorem dX8_setProduct_98 : decode cX8_setProduct 98 = .ok (.iload 8, 2) := by decide +kernel
theorem dX8_setProduct_100 : decode cX8_setProduct 100 = .ok (.iadd, 1) := by decide +kernel
theorem dX8_setProduct_101 : decode cX8_setProduct 101 = .ok (.lload 6, 2) := by decide +kernel
theorem dX8_setProduct_103 : decode cX8_setProduct 103 = .ok (.l2i, 1) := by decide +kernel
theorem dX8_setProduct_104 : decode cX8_setProduct 104 = .ok (.iastore, 1) := by decide +kernel
theorem dX8_setProduct_105 : decode cX8_setProduct 105 = .ok (.lload 6, 2) := by decide +kernel
theorem dX8_setProduct_107 : decode cX8_setProduct 107 = .ok (.bipush 32, 2) := by decide +kernel
theorem dX8_setProduct_109 : decode cX8_setProduct 109 = .ok (.lushr, 1) := by decide +kernel
theorem dX8_setProduct_110 : decode cX8_setProduct 110 = .ok (.lstore 6, 2) := by decide +kernel
theorem dX8_setProduct_112 : decode cX8_setProduct 112 = .ok (.iinc 8 1, 3) := by decide +kernel
theorem dX8_setProduct_115 : decode cX8_setProduct 115 = .ok (.goto (-66), 3) := by decide +kernel
theorem dX8_setProduct_118 : decode cX8_setProduct 118 = .ok (.aload_n 0, 1) := by decide +kernel
theorem dX8_setProduct_119 : decode cX8_setProduct 119 = .ok (.getfield 9, 3) := by decide +kernel
theorem dX8_setProduct_122 : decode cX8_setProduct 122 = .ok (.iload_n 3, 1) := by decide +kernel
theorem dX8_setProduct_123 : decode cX8_setProduct 123 = .ok (.aload_n 2, 1) := by decide +kernel
theorem dX8_setProduct_124 : decode cX8_setProduct 124 = .ok (.getfield 19, 3) := by decide +kernel
theorem dX8_setProduct_127 : decode cX8_setProduct 127 = .ok (.iadd, 1) := by decide +kernel
theorem dX8_setProduct_128 : decode cX8_setProduct 128 = .ok (.lload 6, 2) := by decide +kernel
theorem dX8_setProduct_130 : decode cX8_setProduct 130 = .ok (.l2i, 1) := by decide +kernel
theorem dX8_setProduct_131 : decode cX8_setProduct 131 = .ok (.iastore, 1) := by decide +kernel
theorem dX8_setProduct_132 : decode cX8_setProduct 132 = .ok (.iinc 3 1, 3) := by decide +kernel
theorem dX8_setProduct_135 : decode cX8_setProduct 135 = .ok (.goto (-113), 3) := by decide +kernel
theorem dX8_setProduct_138 : decode cX8_setProduct 138 = .ok (.aload_n 0, 1) := by decide +kernel
theorem dX8_setProduct_139 : decode cX8_setProduct 139 = .ok (.aload_n 1, 1) := by decide +kernel
theorem dX8_setProduct_140 : decode cX8_setProduct 140 = .ok (.getfield 19, 3) := by decide +kernel
theorem dX8_setProduct_143 : decode cX8_setProduct 143 = .ok (.aload_n 2, 1) := by decide +kernel
theorem dX8_setProduct_144 : decode cX8_setProduct 144 = .ok (.getfield 19, 3) := by decide +kernel
theorem dX8_setProduct_147 : decode cX8_setProduct 147 = .ok (.iadd, 1) := by decide +kernel
theorem dX8_setProduct_148 : decode cX8_setProduct 148 = .ok (.putfield 19, 3) := by decide +kernel
theorem dX8_setProduct_151 : decode cX8_setProduct 151 = .ok (.aload_n 0, 1) := by decide +kernel
theorem dX8_setProduct_152 : decode cX8_setProduct 152 = .ok (.invokevirtual 41, 3) := by decide +kernel
theorem dX8_setProduct_155 : decode cX8_setProduct 155 = .ok (.return_, 1) := by decide +kernel
theorem dX8_scale_0 : decode cX8_scale 0 = .ok (.lconst 0, 1) := by decide +kernel
theorem dX8_scale_1 : decode cX8_scale 1 = .ok (.lstore_n 2, 1) := by decide +kernel
theorem dX8_scale_2 : decode cX8_scale 2 = .ok (.iconst 0, 1) := by decide +kernel
theorem dX8_scale_3 : decode cX8_scale 3 = .ok (.istore 4, 2) := by decide +kernel
theorem dX8_scale_5 : decode cX8_scale 5 = .ok (.iload 4, 2) := by decide +kernel
theorem dX8_scale_7 : decode cX8_scale 7 = .ok (.aload_n 0, 1) := by decide +kernel
theorem dX8_scale_8 : decode cX8_scale 8 = .ok (.getfield 19, 3) := by decide +kernel
theorem dX8_scale_11 : decode cX8_scale 11 = .ok (.if_icmp .ge 41, 3) := by decide +kernel
theorem dX8_scale_14 : decode cX8_scale 14 = .ok (.lload_n 2, 1) := by decide +kernel
theorem dX8_scale_15 : decode cX8_scale 15 = .ok (.iload_n 1, 1) := by decide +kernel
theorem dX8_scale_16 : decode cX8_scale 16 = .ok (.i2l, 1) := by decide +kernel
theorem dX8_scale_17 : decode cX8_scale 17 = .ok (.aload_n 0, 1) := by decide +kernel
theorem dX8_scale_18 : decode cX8_scale 18 = .ok (.getfield 9, 3) := by decide +kernel
theorem dX8_scale_21 : decode cX8_scale 21 = .ok (.iload 4, 2) := by decide +kernel
theorem dX8_scale_23 : decode cX8_scale 23 = .ok (.iaload, 1) := by decide +kernel
theorem dX8_scale_24 : decode cX8_scale 24 = .ok (.i2l, 1) := by decide +kernel
theorem dX8_scale_25 : decode cX8_scale 25 = .ok (.ldc2_w 23, 3) := by decide +kernel
theorem dX8_scale_28 : decode cX8_scale 28 = .ok (.land, 1) := by decide +kernel
theorem dX8_scale_29 : decode cX8_scale 29 = .ok (.lmul, 1) := by decide +kernel
theorem dX8_scale_30 : decode cX8_scale 30 = .ok (.ladd, 1) := by decide +kernel
theorem dX8_scale_31 : decode cX8_scale 31 = .ok (.lstore_n 2, 1) := by decide +kernel
theorem dX8_scale_32 : decode cX8_scale 32 = .ok (.aload_n 0, 1) := by decide +kernel
theorem dX8_scale_33 : decode cX8_scale 33 = .ok (.getfield 9, 3) := by decide +kernel
theorem dX8_scale_36 : decode cX8_scale 36 = .ok (.iload 4, 2) := by decide +kernel
theorem dX8_scale_38 : decode cX8_scale 38 = .ok (.lload_n 2, 1) := by decide +kernel
theorem dX8_scale_39 : decode cX8_scale 39 = .ok (.l2i, 1) := by decide +kernel
theorem dX8_scale_40 : decode cX8_scale 40 = .ok (.iastore, 1) := by decide +kernel
theorem dX8_scale_41 : decode cX8_scale 41 = .ok (.lload_n 2, 1) := by decide +kernel
theorem dX8_scale_42 : decode cX8_scale 42 = .ok (.bipush 32, 2) := by decide +kernel
theorem dX8_scale_44 : decode cX8_scale 44 = .ok (.lushr, 1) := by decide +kernel
theorem dX8_scale_45 : decode cX8_scale 45 = .ok (.lstore_n 2, 1) := by decide +kernel
theorem dX8_scale_46 : decode cX8_scale 46 = .ok (.iinc 4 1, 3) := by decide +kernel
theorem dX8_scale_49 : decode cX8_scale 49 = .ok (.goto (-44), 3) := by decide +kernel
theorem dX8_scale_52 : decode cX8_scale 52 = .ok (.aload_n 0, 1) := by decide +kernel
theorem dX8_scale_53 : decode cX8_scale 53 = .ok (.lload_n 2, 1) := by decide +kernel
theorem dX8_scale_54 : decode cX8_scale 54 = .ok (.l2i, 1) := by decide +kernel
theorem dX8_scale_55 : decode cX8_scale 55 = .ok (.invokevirtual 37, 3) := by decide +kernel
theorem dX8_scale_58 : decode cX8_scale 58 = .ok (.aload_n 0, 1) := by decide +kernel
theorem dX8_scale_59 : decode cX8_scale 59 = .ok (.invokevirtual 41, 3) := by decide +kernel
theorem dX8_scale_62 : decode cX8_scale 62 = .ok (.return_, 1) := by decide +kernel
theorem dX8_shiftLeft_0 : decode cX8_shiftLeft 0 = .ok (.lconst 0, 1) := by decide +kernel
theorem dX8_shiftLeft_1 : decode cX8_shiftLeft 1 = .ok (.lstore_n 2, 1) := by decide +kernel
theorem dX8_shiftLeft_2 : decode cX8_shiftLeft 2 = .ok (.iconst 0, 1) := by decide +kernel
theorem dX8_shiftLeft_3 : decode cX8_shiftLeft 3 = .ok (.istore 4, 2) := by decide +kernel
theorem dX8_shiftLeft_5 : decode cX8_shiftLeft 5 = .ok (.iload 4, 2) := by decide +kernel
theorem dX8_shiftLeft_7 : decode cX8_shiftLeft 7 = .ok (.aload_n 0, 1) := by decide +kernel
theorem dX8_shiftLeft_8 : decode cX8_shiftLeft 8 = .ok (.getfield 19, 3) := by decide +kernel
theorem dX8_shiftLeft_11 : decode cX8_shiftLeft 11 = .ok (.if_icmp .ge 40, 3) := by decide +kernel
theorem dX8_shiftLeft_14 : decode cX8_shiftLeft 14 = .ok (.lload_n 2, 1) := by decide +kernel
theorem dX8_shiftLeft_15 : decode cX8_shiftLeft 15 = .ok (.aload_n 0, 1) := by decide +kernel
theorem dX8_shiftLeft_16 : decode cX8_shiftLeft 16 = .ok (.getfield 9, 3) := by decide +kernel
theorem dX8_shiftLeft_19 : decode cX8_shiftLeft 19 = .ok (.iload 4, 2) := by decide +kernel
theorem dX8_shiftLeft_21 : decode cX8_shiftLeft 21 = .ok (.iaload, 1) := by decide +kernel
theorem dX8_shiftLeft_22 : decode cX8_shiftLeft 22 = .ok (.i2l, 1) := by decide +kernel
theorem dX8_shiftLeft_23 : decode cX8_shiftLeft 23 = .ok (.ldc2_w 23, 3) := by decide +kernel
theorem dX8_shiftLeft_26 : decode cX8_shiftLeft 26 = .ok (.land, 1) := by decide +kernel
theorem dX8_shiftLeft_27 : decode cX8_shiftLeft 27 = .ok (.iload_n 1, 1) := by decide +kernel
theorem dX8_shiftLeft_28 : decode cX8_shiftLeft 28 = .ok (.lshl, 1) := by decide +kernel
theorem dX8_shiftLeft_29 : decode cX8_shiftLeft 29 = .ok (.lor, 1) := by decide +kernel
theorem dX8_shiftLeft_30 : decode cX8_shiftLeft 30 = .ok (.lstore_n 2, 1) := by decide +kernel
theorem dX8_shiftLeft_31 : decode cX8_shiftLeft 31 = .ok (.aload_n 0, 1) := by decide +kernel
theorem dX8_shiftLeft_32 : decode cX8_shiftLeft 32 = .ok (.getfield 9, 3) := by decide +kernel
theorem dX8_shiftLeft_35 : decode cX8_shiftLeft 35 = .ok (.iload 4, 2) := by decide +kernel
theorem dX8_shiftLeft_37 : decode cX8_shiftLeft 37 = .ok (.lload_n 2, 1) := by decide +kernel
theorem dX8_shiftLeft_38 : decode cX8_shiftLeft 38 = .ok (.l2i, 1) := by decide +kernel
theorem dX8_shiftLeft_39 : decode cX8_shiftLeft 39 = .ok (.iastore, 1) := by decide +kernel
theorem dX8_shiftLeft_40 : decode cX8_shiftLeft 40 = .ok (.lload_n 2, 1) := by decide +kernel
theorem dX8_shiftLeft_41 : decode cX8_shiftLeft 41 = .ok (.bipush 32, 2) := by decide +kernel
theorem dX8_shiftLeft_43 : decode cX8_shiftLeft 43 = .ok (.lushr, 1) := by decide +kernel
theorem dX8_shiftLeft_44 : decode cX8_shiftLeft 44 = .ok (.lstore_n 2, 1) := by decide +kernel
theorem dX8_shiftLeft_45 : decode cX8_shiftLeft 45 = .ok (.iinc 4 1, 3) := by decide +kernel
theorem dX8_shiftLeft_48 : decode cX8_shiftLeft 48 = .ok (.goto (-43), 3) := by decide +kernel
theorem dX8_shiftLeft_51 : decode cX8_shiftLeft 51 = .ok (.lload_n 2, 1) := by decide +kernel
theorem dX8_shiftLeft_52 : decode cX8_shiftLeft 52 = .ok (.lconst 0, 1) := by decide +kernel
theorem dX8_shiftLeft_53 : decode cX8_shiftLeft 53 = .ok (.lcmp, 1) := by decide +kernel
theorem dX8_shiftLeft_54 : decode cX8_shiftLeft 54 = .ok (.ifCond .eq 33, 3) := by decide +kernel
theorem dX8_shiftLeft_57 : decode cX8_shiftLeft 57 = .ok (.aload_n 0, 1) := by decide +kernel
theorem dX8_shiftLeft_58 : decode cX8_shiftLeft 58 = .ok (.getfield 19, 3) := by decide +kernel
theorem dX8_shiftLeft_61 : decode cX8_shiftLeft 61 = .ok (.bipush 16, 2) := by decide +kernel
theorem dX8_shiftLeft_63 : decode cX8_shiftLeft 63 = .ok (.if_icmp .ge 24, 3) := by decide +kernel
theorem dX8_shiftLeft_66 : decode cX8_shiftLeft 66 = .ok (.aload_n 0, 1) := by decide +kernel
theorem dX8_shiftLeft_67 : decode cX8_shiftLeft 67 = .ok (.getfield 9, 3) := by decide +kernel
theorem dX8_shiftLeft_70 : decode cX8_shiftLeft 70 = .ok (.aload_n 0, 1) := by decide +kernel
theorem dX8_shiftLeft_71 : decode cX8_shiftLeft 71 = .ok (.getfield 19, 3) := by decide +kernel
theorem dX8_shiftLeft_74 : decode cX8_shiftLeft 74 = .ok (.lload_n 2, 1) := by decide +kernel
theorem dX8_shiftLeft_75 : decode cX8_shiftLeft 75 = .ok (.l2i, 1) := by decide +kernel
theorem dX8_shiftLeft_76 : decode cX8_shiftLeft 76 = .ok (.iastore, 1) := by decide +kernel
theorem dX8_shiftLeft_77 : decode cX8_shiftLeft 77 = .ok (.aload_n 0, 1) := by decide +kernel
theorem dX8_shiftLeft_78 : decode cX8_shiftLeft 78 = .ok (.dup, 1) := by decide +kernel
theorem dX8_shiftLeft_79 : decode cX8_shiftLeft 79 = .ok (.getfield 19, 3) := by decide +kernel
theorem dX8_shiftLeft_82 : decode cX8_shiftLeft 82 = .ok (.iconst 1, 1) := by decide +kernel
theorem dX8_shiftLeft_83 : decode cX8_shiftLeft 83 = .ok (.iadd, 1) := by decide +kernel
theorem dX8_shiftLeft_84 : decode cX8_shiftLeft 84 = .ok (.putfield 19, 3) := by decide +kernel
theorem dX8_shiftLeft_87 : decode cX8_shiftLeft 87 = .ok (.return_, 1) := by decide +kernel
theorem dX8_shiftRight_0 : decode cX8_shiftRight 0 = .ok (.lconst 0, 1) := by decide +kernel
theorem dX8_shiftRight_1 : decode cX8_shiftRight 1 = .ok (.lstore_n 2, 1) := by decide +kernel
theorem dX8_shiftRight_2 : decode cX8_shiftRight 2 = .ok (.aload_n 0, 1) := by decide +kernel
theorem dX8_shiftRight_3 : decode cX8_shiftRight 3 = .ok (.getfield 19, 3) := by decide +kernel
theorem dX8_shiftRight_6 : decode cX8_shiftRight 6 = .ok (.iconst 1, 1) := by decide +kernel
theorem dX8_shiftRight_7 : decode cX8_shiftRight 7 = .ok (.isub, 1) := by decide +kernel
theorem dX8_shiftRight_8 : decode cX8_shiftRight 8 = .ok (.istore 4, 2) := by decide +kernel
theorem dX8_shiftRight_10 : decode cX8_shiftRight 10 = .ok (.iload 4, 2) := by decide +kernel
theorem dX8_shiftRight_12 : decode cX8_shiftRight 12 = .ok (.ifCond .lt 43, 3) := by decide +kernel
theorem dX8_shiftRight_15 : decode cX8_shiftRight 15 = .ok (.aload_n 0, 1) := by decide +kernel
theorem dX8_shiftRight_16 : decode cX8_shiftRight 16 = .ok (.getfield 9, 3) := by decide +kernel
theorem dX8_shiftRight_19 : decode cX8_shiftRight 19 = .ok (.iload 4, 2) := by decide +kernel
theorem dX8_shiftRight_21 : decode cX8_shiftRight 21 = .ok (.iaload, 1) := by decide +kernel
theorem dX8_shiftRight_22 : decode cX8_shiftRight 22 = .ok (.i2l, 1) := by decide +kernel
theorem dX8_shiftRight_23 : decode cX8_shiftRight 23 = .ok (.ldc2_w 23, 3) := by decide +kernel
theorem dX8_shiftRight_26 : decode cX8_shiftRight 26 = .ok (.land, 1) := by decide +kernel
theorem dX8_shiftRight_27 : decode cX8_shiftRight 27 = .ok (.lstore 5, 2) := by decide +kernel
theorem dX8_shiftRight_29 : decode cX8_shiftRight 29 = .ok (.aload_n 0, 1) := by decide +kernel
theorem dX8_shiftRight_30 : decode cX8_shiftRight 30 = .ok (.getfield 9, 3) := by decide +kernel
theorem dX8_shiftRight_33 : decode cX8_shiftRight 33 = .ok (.iload 4, 2) := by decide +kernel
theorem dX8_shiftRight_35 : decode cX8_shiftRight 35 = .ok (.lload_n 2, 1) := by decide +kernel
theorem dX8_shiftRight_36 : decode cX8_shiftRight 36 = .ok (.bipush 32, 2) := by decide +kernel
theorem dX8_shiftRight_38 : decode cX8_shiftRight 38 = .ok (.lshl, 1) := by decide +kernel
theorem dX8_shiftRight_39 : decode cX8_shiftRight 39 = .ok (.lload 5, 2) := by decide +kernel
theorem dX8_shiftRight_41 : decode cX8_shiftRight 41 = .ok (.lor, 1) := by decide +kernel
theorem dX8_shiftRight_42 : decode cX8_shiftRight 42 = .ok (.iload_n 1, 1) := by decide +kernel
theorem dX8_shiftRight_43 : decode cX8_shiftRight 43 = .ok (.lushr, 1) := by decide +kernel
theorem dX8_shiftRight_44 : decode cX8_shiftRight 44 = .ok (.l2i, 1) := by decide +kernel
theorem dX8_shiftRight_45 : decode cX8_shiftRight 45 = .ok (.iastore, 1) := by decide +kernel
theorem dX8_shiftRight_46 : decode cX8_shiftRight 46 = .ok (.lload 5, 2) := by decide +kernel
theorem dX8_shiftRight_48 : decode cX8_shiftRight 48 = .ok (.lstore_n 2, 1) := by decide +kernel
theorem dX8_shiftRight_49 : decode cX8_shiftRight 49 = .ok (.iinc 4 (-1), 3) := by decide +kernel
theorem dX8_shiftRight_52 : decode cX8_shiftRight 52 = .ok (.goto (-42), 3) := by decide +kernel
theorem dX8_shiftRight_55 : decode cX8_shiftRight 55 = .ok (.return_, 1) := by decide +kernel
theorem dX8_restBy_0 : decode cX8_restBy 0 = .ok (.lconst 0, 1) := by decide +kernel
theorem dX8_restBy_1 : decode cX8_restBy 1 = .ok (.lstore_n 2, 1) := by decide +kernel
theorem dX8_restBy_2 : decode cX8_restBy 2 = .ok (.aload_n 0, 1) := by decide +kernel
theorem dX8_restBy_3 : decode cX8_restBy 3 = .ok (.getfield 19, 3) := by decide +kernel
theorem dX8_restBy_6 : decode cX8_restBy 6 = .ok (.iconst 1, 1) := by decide +kernel
theorem dX8_restBy_7 : decode cX8_restBy 7 = .ok (.isub, 1) := by decide +kernel
theorem dX8_restBy_8 : decode cX8_restBy 8 = .ok (.istore 4, 2) := by decide +kernel
theorem dX8_restBy_10 : decode cX8_restBy 10 = .ok (.iload 4, 2) := by decide +kernel
theorem dX8_restBy_12 : decode cX8_restBy 12 = .ok (.ifCond .lt 34, 3) := by decide +kernel
theorem dX8_restBy_15 : decode cX8_restBy 15 = .ok (.iload_n 1, 1) := by decide +kernel
theorem dX8_restBy_16 : decode cX8_restBy 16 = .ok (.ifCond .le 30, 3) := by decide +kernel
theorem dX8_restBy_19 : decode cX8_restBy 19 = .ok (.lload_n 2, 1) := by decide +kernel
theorem dX8_restBy_20 : decode cX8_restBy 20 = .ok (.bipush 32, 2) := by decide +kernel
theorem dX8_restBy_22 : decode cX8_restBy 22 = .ok (.lshl, 1) := by decide +kernel
theorem dX8_restBy_23 : decode cX8_restBy 23 = .ok (.aload_n 0, 1) := by decide +kernel
theorem dX8_restBy_24 : decode cX8_restBy 24 = .ok (.getfield 9, 3) := by decide +kernel
theorem dX8_restBy_27 : decode cX8_restBy 27 = .ok (.iload 4, 2) := by decide +kernel
theorem dX8_restBy_29 : decode cX8_restBy 29 = .ok (.iaload, 1) := by decide +kernel
theorem dX8_restBy_30 : decode cX8_restBy 30 = .ok (.i2l, 1) := by decide +kernel
theorem dX8_restBy_31 : decode cX8_restBy 31 = .ok (.ldc2_w 23, 3) := by decide +kernel
theorem dX8_restBy_34 : decode cX8_restBy 34 = .ok (.land, 1) := by decide +kernel
theorem dX8_restBy_35 : decode cX8_restBy 35 = .ok (.lor, 1) := by decide +kernel
theorem dX8_restBy_36 : decode cX8_restBy 36 = .ok (.iload_n 1, 1) := by decide +kernel
theorem dX8_restBy_37 : decode cX8_restBy 37 = .ok (.i2l, 1) := by decide +kernel
theorem dX8_restBy_38 : decode cX8_restBy 38 = .ok (.lrem, 1) := by decide +kernel
theorem dX8_restBy_39 : decode cX8_restBy 39 = .ok (.lstore_n 2, 1) := by decide +kernel
theorem dX8_restBy_40 : decode cX8_restBy 40 = .ok (.iinc 4 (-1), 3) := by decide +kernel
theorem dX8_restBy_43 : decode cX8_restBy 43 = .ok (.goto (-33), 3) := by decide +kernel
theorem dX8_restBy_46 : decode cX8_restBy 46 = .ok (.lload_n 2, 1) := by decide +kernel
theorem dX8_restBy_47 : decode cX8_restBy 47 = .ok (.l2i, 1) := by decide +kernel
theorem dX8_restBy_48 : decode cX8_restBy 48 = .ok (.ireturn, 1) := by decide +kernel
theorem dX8_shrinkBy_0 : decode cX8_shrinkBy 0 = .ok (.lconst 0, 1) := by decide +kernel
theorem dX8_shrinkBy_1 : decode cX8_shrinkBy 1 = .ok (.lstore_n 2, 1) := by decide +kernel
theorem dX8_shrinkBy_2 : decode cX8_shrinkBy 2 = .ok (.aload_n 0, 1) := by decide +kernel
theorem dX8_shrinkBy_3 : decode cX8_shrinkBy 3 = .ok (.getfield 19, 3) := by decide +kernel
theorem dX8_shrinkBy_6 : decode cX8_shrinkBy 6 = .ok (.iconst 1, 1) := by decide +kernel
theorem dX8_shrinkBy_7 : decode cX8_shrinkBy 7 = .ok (.isub, 1) := by decide +kernel
theorem dX8_shrinkBy_8 : decode cX8_shrinkBy 8 = .ok (.istore 4, 2) := by decide +kernel
theorem dX8_shrinkBy_10 : decode cX8_shrinkBy 10 = .ok (.iload 4, 2) := by decide +kernel
theorem dX8_shrinkBy_12 : decode cX8_shrinkBy 12 = .ok (.ifCond .lt 48, 3) := by decide +kernel
theorem dX8_shrinkBy_15 : decode cX8_shrinkBy 15 = .ok (.iload_n 1, 1) := by decide +kernel
theorem dX8_shrinkBy_16 : decode cX8_shrinkBy 16 = .ok (.ifCond .le 44, 3) := by decide +kernel
theorem dX8_shrinkBy_19 : decode cX8_shrinkBy 19 = .ok (.lload_n 2, 1) := by decide +kernel
theorem dX8_shrinkBy_20 : decode cX8_shrinkBy 20 = .ok (.bipush 32, 2) := by decide +kernel
theorem dX8_shrinkBy_22 : decode cX8_shrinkBy 22 = .ok (.lshl, 1) := by decide +kernel
theorem dX8_shrinkBy_23 : decode cX8_shrinkBy 23 = .ok (.aload_n 0, 1) := by decide +kernel
theorem dX8_shrinkBy_24 : decode cX8_shrinkBy 24 = .ok (.getfield 9, 3) := by decide +kernel
theorem dX8_shrinkBy_27 : decode cX8_shrinkBy 27 = .ok (.iload 4, 2) := by decide +kernel
theorem dX8_shrinkBy_29 : decode cX8_shrinkBy 29 = .ok (.iaload, 1) := by decide +kernel
theorem dX8_shrinkBy_30 : decode cX8_shrinkBy 30 = .ok (.i2l, 1) := by decide +kernel
theorem dX8_shrinkBy_31 : decode cX8_shrinkBy 31 = .ok (.ldc2_w 23, 3) := by decide +kernel
theorem dX8_shrinkBy_34 : decode cX8_shrinkBy 34 = .ok (.land, 1) := by decide +kernel
theorem dX8_shrinkBy_35 : decode cX8_shrinkBy 35 = .ok (.lor, 1) := by decide +kernel
theorem dX8_shrinkBy_36 : decode cX8_shrinkBy 36 = .ok (.lstore_n 2, 1) := by decide +kernel
theorem dX8_shrinkBy_37 : decode cX8_shrinkBy 37 = .ok (.aload_n 0, 1) := by decide +kernel
theorem dX8_shrinkBy_38 : decode cX8_shrinkBy 38 = .ok (.getfield 9, 3) := by decide +kernel
theorem dX8_shrinkBy_41 : decode cX8_shrinkBy 41 = .ok (.iload 4, 2) := by decide +kernel
theorem dX8_shrinkBy_43 : decode cX8_shrinkBy 43 = .ok (.lload_n 2, 1) := by decide +kernel
theorem dX8_shrinkBy_44 : decode cX8_shrinkBy 44 = .ok (.iload_n 1, 1) := by decide +kernel
theorem dX8_shrinkBy_45 : decode cX8_shrinkBy 45 = .ok (.i2l, 1) := by decide +kernel
theorem dX8_shrinkBy_46 : decode cX8_shrinkBy 46 = .ok (.ldiv, 1) := by decide +kernel
theorem dX8_shrinkBy_47 : decode cX8_shrinkBy 47 = .ok (.l2i, 1) := by decide +kernel
theorem dX8_shrinkBy_48 : decode cX8_shrinkBy 48 = .ok (.iastore, 1) := by decide +kernel
theorem dX8_shrinkBy_49 : decode cX8_shrinkBy 49 = .ok (.lload_n 2, 1) := by decide +kernel
theorem dX8_shrinkBy_50 : decode cX8_shrinkBy 50 = .ok (.iload_n 1, 1) := by decide +kernel
theorem dX8_shrinkBy_51 : decode cX8_shrinkBy 51 = .ok (.i2l, 1) := by decide +kernel
theorem dX8_shrinkBy_52 : decode cX8_shrinkBy 52 = .ok (.lrem, 1) := by decide +kernel
theorem dX8_shrinkBy_53 : decode cX8_shrinkBy 53 = .ok (.lstore_n 2, 1) := by decide +kernel
theorem dX8_shrinkBy_54 : decode cX8_shrinkBy 54 = .ok (.iinc 4 (-1), 3) := by decide +kernel
theorem dX8_shrinkBy_57 : decode cX8_shrinkBy 57 = .ok (.goto (-47), 3) := by decide +kernel
theorem dX8_shrinkBy_60 : decode cX8_shrinkBy 60 = .ok (.aload_n 0, 1) := by decide +kernel
theorem dX8_shrinkBy_61 : decode cX8_shrinkBy 61 = .ok (.invokevirtual 41, 3) := by decide +kernel
theorem dX8_shrinkBy_64 : decode cX8_shrinkBy 64 = .ok (.lload_n 2, 1) := by decide +kernel
theorem dX8_shrinkBy_65 : decode cX8_shrinkBy 65 = .ok (.l2i, 1) := by decide +kernel
theorem dX8_shrinkBy_66 : decode cX8_shrinkBy 66 = .ok (.ireturn, 1) := by decide +kernel
theorem dX8_takeTimes_0 : decode cX8_takeTimes 0 = .ok (.lconst 0, 1) := by decide +kernel
theorem dX8_takeTimes_1 : decode cX8_takeTimes 1 = .ok (.lstore 5, 2) := by decide +kernel
theorem dX8_takeTimes_3 : decode cX8_takeTimes 3 = .ok (.iconst 0, 1) := by decide +kernel
theorem dX8_takeTimes_4 : decode cX8_takeTimes 4 = .ok (.istore 7, 2) := by decide +kernel
theorem dX8_takeTimes_6 : decode cX8_takeTimes 6 = .ok (.iload 7, 2) := by decide +kernel
theorem dX8_takeTimes_8 : decode cX8_takeTimes 8 = .ok (.aload_n 3, 1) := by decide +kernel
theorem dX8_takeTimes_9 : decode cX8_takeTimes 9 = .ok (.getfield 19, 3) := by decide +kernel
theorem dX8_takeTimes_12 : decode cX8_takeTimes 12 = .ok (.if_icmp .ge 78, 3) := by decide +kernel
theorem dX8_takeTimes_15 : decode cX8_takeTimes 15 = .ok (.lload_n 1, 1) := by decide +kernel
theorem dX8_takeTimes_16 : decode cX8_takeTimes 16 = .ok (.aload_n 3, 1) := by decide +kernel
theorem dX8_takeTimes_17 : decode cX8_takeTimes 17 = .ok (.getfield 9, 3) := by decide +kernel
theorem dX8_takeTimes_20 : decode cX8_takeTimes 20 = .ok (.iload 7, 2) := by decide +kernel
theorem dX8_takeTimes_22 : decode cX8_takeTimes 22 = .ok (.iaload, 1) := by decide +kernel
theorem dX8_takeTimes_23 : decode cX8_takeTimes 23 = .ok (.i2l, 1) := by decide +kernel
theorem dX8_takeTimes_24 : decode cX8_takeTimes 24 = .ok (.ldc2_w 23, 3) := by decide +kernel
theorem dX8_takeTimes_27 : decode cX8_takeTimes 27 = .ok (.land, 1) := by decide +kernel
theorem dX8_takeTimes_28 : decode cX8_takeTimes 28 = .ok (.lmul, 1) := by decide +kernel
theorem dX8_takeTimes_29 : decode cX8_takeTimes 29 = .ok (.lload 5, 2) := by decide +kernel
theorem dX8_takeTimes_31 : decode cX8_takeTimes 31 = .ok (.ladd, 1) := by decide +kernel
theorem dX8_takeTimes_32 : decode cX8_takeTimes 32 = .ok (.lstore 8, 2) := by decide +kernel
theorem dX8_takeTimes_34 : decode cX8_takeTimes 34 = .ok (.aload_n 0, 1) := by decide +kernel
theorem dX8_takeTimes_35 : decode cX8_takeTimes 35 = .ok (.getfield 9, 3) := by decide +kernel
theorem dX8_takeTimes_38 : decode cX8_takeTimes 38 = .ok (.iload 4, 2) := by decide +kernel
theorem dX8_takeTimes_40 : decode cX8_takeTimes 40 = .ok (.iload 7, 2) := by decide +kernel
theorem dX8_takeTimes_42 : decode cX8_takeTimes 42 = .ok (.iadd, 1) := by decide +kernel
theorem dX8_takeTimes_43 : decode cX8_takeTimes 43 = .ok (.iaload, 1) := by decide +kernel
theorem dX8_takeTimes_44 : decode cX8_takeTimes 44 = .ok (.i2l, 1) := by decide +kernel
theorem dX8_takeTimes_45 : decode cX8_takeTimes 45 = .ok (.ldc2_w 23, 3) := by decide +kernel
theorem dX8_takeTimes_48 : decode cX8_takeTimes 48 = .ok (.land, 1) := by decide +kernel
theorem dX8_takeTimes_49 : decode cX8_takeTimes 49 = .ok (.lload 8, 2) := by decide +kernel
theorem dX8_takeTimes_51 : decode cX8_takeTimes 51 = .ok (.ldc2_w 23, 3) := by decide +kernel
theorem dX8_takeTimes_54 : decode cX8_takeTimes 54 = .ok (.land, 1) := by decide +kernel
theorem dX8_takeTimes_55 : decode cX8_takeTimes 55 = .ok (.lsub, 1) := by decide +kernel
theorem dX8_takeTimes_56 : decode cX8_takeTimes 56 = .ok (.lstore 10, 2) := by decide +kernel
theorem dX8_takeTimes_58 : decode cX8_takeTimes 58 = .ok (.aload_n 0, 1) := by decide +kernel
theorem dX8_takeTimes_59 : decode cX8_takeTimes 59 = .ok (.getfield 9, 3) := by decide +kernel
theorem dX8_takeTimes_62 : decode cX8_takeTimes 62 = .ok (.iload 4, 2) := by decide +kernel
theorem dX8_takeTimes_64 : decode cX8_takeTimes 64 = .ok (.iload 7, 2) := by decide +kernel
theorem dX8_takeTimes_66 : decode cX8_takeTimes 66 = .ok (.iadd, 1) := by decide +kernel
theorem dX8_takeTimes_67 : decode cX8_takeTimes 67 = .ok (.lload 10, 2) := by decide +kernel
theorem dX8_takeTimes_69 : decode cX8_takeTimes 69 = .ok (.l2i, 1) := by decide +kernel
theorem dX8_takeTimes_70 : decode cX8_takeTimes 70 = .ok (.iastore, 1) := by decide +kernel
theorem dX8_takeTimes_71 : decode cX8_takeTimes 71 = .ok (.lload 8, 2) := by decide +kernel
theorem dX8_takeTimes_73 : decode cX8_takeTimes 73 = .ok (.bipush 32, 2) := by decide +kernel
theorem dX8_takeTimes_75 : decode cX8_takeTimes 75 = .ok (.lushr, 1) := by decide +kernel
theorem dX8_takeTimes_76 : decode cX8_takeTimes 76 = .ok (.lload 10, 2) := by decide +kernel
theorem dX8_takeTimes_78 : decode cX8_takeTimes 78 = .ok (.bipush 63, 2) := by decide +kernel
theorem dX8_takeTimes_80 : decode cX8_takeTimes 80 = .ok (.lushr, 1) := by decide +kernel
theorem dX8_takeTimes_81 : decode cX8_takeTimes 81 = .ok (.ladd, 1) := by decide +kernel
theorem dX8_takeTimes_82 : decode cX8_takeTimes 82 = .ok (.lstore 5, 2) := by decide +kernel
theorem dX8_takeTimes_84 : decode cX8_takeTimes 84 = .ok (.iinc 7 1, 3) := by decide +kernel
theorem dX8_takeTimes_87 : decode cX8_takeTimes 87 = .ok (.goto (-81), 3) := by decide +kernel
theorem dX8_takeTimes_90 : decode cX8_takeTimes 90 = .ok (.aload_n 0, 1) := by decide +kernel
theorem dX8_takeTimes_91 : decode cX8_takeTimes 91 = .ok (.getfield 9, 3) := by decide +kernel
theorem dX8_takeTimes_94 : decode cX8_takeTimes 94 = .ok (.iload 4, 2) := by decide +kernel
theorem dX8_takeTimes_96 : decode cX8_takeTimes 96 = .ok (.aload_n 3, 1) := by decide +kernel
theorem dX8_takeTimes_97 : decode cX8_takeTimes 97 = .ok (.getfield 19, 3) := by decide +kernel
theorem dX8_takeTimes_100 : decode cX8_takeTimes 100 = .ok (.iadd, 1) := by decide +kernel
theorem dX8_takeTimes_101 : decode cX8_takeTimes 101 = .ok (.iaload, 1) := by decide +kernel
theorem dX8_takeTimes_102 : decode cX8_takeTimes 102 = .ok (.i2l, 1) := by decide +kernel
theorem dX8_takeTimes_103 : decode cX8_takeTimes 103 = .ok (.ldc2_w 23, 3) := by decide +kernel
theorem dX8_takeTimes_106 : decode cX8_takeTimes 106 = .ok (.land, 1) := by decide +kernel
theorem dX8_takeTimes_107 : decode cX8_takeTimes 107 = .ok (.lload 5, 2) := by decide +kernel
theorem dX8_takeTimes_109 : decode cX8_takeTimes 109 = .ok (.lsub, 1) := by decide +kernel
theorem dX8_takeTimes_110 : decode cX8_takeTimes 110 = .ok (.lstore 7, 2) := by decide +kernel
theorem dX8_takeTimes_112 : decode cX8_takeTimes 112 = .ok (.aload_n 0, 1) := by decide +kernel
theorem dX8_takeTimes_113 : decode cX8_takeTimes 113 = .ok (.getfield 9, 3) := by decide +kernel
theorem dX8_takeTimes_116 : decode cX8_takeTimes 116 = .ok (.iload 4, 2) := by decide +kernel
theorem dX8_takeTimes_118 : decode cX8_takeTimes 118 = .ok (.aload_n 3, 1) := by decide +kernel
theorem dX8_takeTimes_119 : decode cX8_takeTimes 119 = .ok (.getfield 19, 3) := by decide +kernel
theorem dX8_takeTimes_122 : decode cX8_takeTimes 122 = .ok (.iadd, 1) := by decide +kernel
theorem dX8_takeTimes_123 : decode cX8_takeTimes 123 = .ok (.lload 7, 2) := by decide +kernel
theorem dX8_takeTimes_125 : decode cX8_takeTimes 125 = .ok (.l2i, 1) := by decide +kernel
theorem dX8_takeTimes_126 : decode cX8_takeTimes 126 = .ok (.iastore, 1) := by decide +kernel
theorem dX8_takeTimes_127 : decode cX8_takeTimes 127 = .ok (.lload 7, 2) := by decide +kernel
theorem dX8_takeTimes_129 : decode cX8_takeTimes 129 = .ok (.lconst 0, 1) := by decide +kernel
theorem dX8_takeTimes_130 : decode cX8_takeTimes 130 = .ok (.lcmp, 1) := by decide +kernel
theorem dX8_takeTimes_131 : decode cX8_takeTimes 131 = .ok (.ifCond .ge 7, 3) := by decide +kernel
theorem dX8_takeTimes_134 : decode cX8_takeTimes 134 = .ok (.iconst 1, 1) := by decide +kernel
theorem dX8_takeTimes_135 : decode cX8_takeTimes 135 = .ok (.goto 4, 3) := by decide +kernel
theorem dX8_takeTimes_138 : decode cX8_takeTimes 138 = .ok (.iconst 0, 1) := by decide +kernel
theorem dX8_takeTimes_139 : decode cX8_takeTimes 139 = .ok (.ireturn, 1) := by decide +kernel
theorem dX8_giveBack_0 : decode cX8_giveBack 0 = .ok (.lconst 0, 1) := by decide +kernel
theorem dX8_giveBack_1 : decode cX8_giveBack 1 = .ok (.lstore_n 3, 1) := by decide +kernel
theorem dX8_giveBack_2 : decode cX8_giveBack 2 = .ok (.iconst 0, 1) := by decide +kernel
theorem dX8_giveBack_3 : decode cX8_giveBack 3 = .ok (.istore 5, 2) := by decide +kernel
theorem dX8_giveBack_5 : decode cX8_giveBack 5 = .ok (.iload 5, 2) := by decide +kernel
theorem dX8_giveBack_7 : decode cX8_giveBack 7 = .ok (.aload_n 1, 1) := by decide +kernel
theorem dX8_giveBack_8 : decode cX8_giveBack 8 = .ok (.getfield 19, 3) := by decide +kernel
theorem dX8_giveBack_11 : decode cX8_giveBack 11 = .ok (.if_icmp .ge 55, 3) := by decide +kernel
theorem dX8_giveBack_14 : decode cX8_giveBack 14 = .ok (.lload_n 3, 1) := by decide +kernel
theorem dX8_giveBack_15 : decode cX8_giveBack 15 = .ok (.aload_n 0, 1) := by decide +kernel
theorem dX8_giveBack_16 : decode cX8_giveBack 16 = .ok (.getfield 9, 3) := by decide +kernel
theorem dX8_giveBack_19 : decode cX8_giveBack 19 = .ok (.iload_n 2, 1) := by decide +kernel
theorem dX8_giveBack_20 : decode cX8_giveBack 20 = .ok (.iload 5, 2) := by decide +kernel
theorem dX8_giveBack_22 : decode cX8_giveBack 22 = .ok (.iadd, 1) := by decide +kernel
theorem dX8_giveBack_23 : decode cX8_giveBack 23 = .ok (.iaload, 1) := by decide +kernel
theorem dX8_giveBack_24 : decode cX8_giveBack 24 = .ok (.i2l, 1) := by decide +kernel
theorem dX8_giveBack_25 : decode cX8_giveBack 25 = .ok (.ldc2_w 23, 3) := by decide +kernel
theorem dX8_giveBack_28 : decode cX8_giveBack 28 = .ok (.land, 1) := by decide +kernel
theorem dX8_giveBack_29 : decode cX8_giveBack 29 = .ok (.aload_n 1, 1) := by decide +kernel
theorem dX8_giveBack_30 : decode cX8_giveBack 30 = .ok (.getfield 9, 3) := by decide +kernel
theorem dX8_giveBack_33 : decode cX8_giveBack 33 = .ok (.iload 5, 2) := by decide +kernel
theorem dX8_giveBack_35 : decode cX8_giveBack 35 = .ok (.iaload, 1) := by decide +kernel
theorem dX8_giveBack_36 : decode cX8_giveBack 36 = .ok (.i2l, 1) := by decide +kernel
theorem dX8_giveBack_37 : decode cX8_giveBack 37 = .ok (.ldc2_w 23, 3) := by decide +kernel
theorem dX8_giveBack_40 : decode cX8_giveBack 40 = .ok (.land, 1) := by decide +kernel
theorem dX8_giveBack_41 : decode cX8_giveBack 41 = .ok (.ladd, 1) := by decide +kernel
theorem dX8_giveBack_42 : decode cX8_giveBack 42 = .ok (.ladd, 1) := by decide +kernel
theorem dX8_giveBack_43 : decode cX8_giveBack 43 = .ok (.lstore_n 3, 1) := by decide +kernel
theorem dX8_giveBack_44 : decode cX8_giveBack 44 = .ok (.aload_n 0, 1) := by decide +kernel
theorem dX8_giveBack_45 : decode cX8_giveBack 45 = .ok (.getfield 9, 3) := by decide +kernel
theorem dX8_giveBack_48 : decode cX8_giveBack 48 = .ok (.iload_n 2, 1) := by decide +kernel
theorem dX8_giveBack_49 : decode cX8_giveBack 49 = .ok (.iload 5, 2) := by decide +kernel
theorem dX8_giveBack_51 : decode cX8_giveBack 51 = .ok (.iadd, 1) := by decide +kernel
theorem dX8_giveBack_52 : decode cX8_giveBack 52 = .ok (.lload_n 3, 1) := by decide +kernel
theorem dX8_giveBack_53 : decode cX8_giveBack 53 = .ok (.l2i, 1) := by decide +kernel
theorem dX8_giveBack_54 : decode cX8_giveBack 54 = .ok (.iastore, 1) := by decide +kernel
theorem dX8_giveBack_55 : decode cX8_giveBack 55 = .ok (.lload_n 3, 1) := by decide +kernel
theorem dX8_giveBack_56 : decode cX8_giveBack 56 = .ok (.bipush 32, 2) := by decide +kernel
theorem dX8_giveBack_58 : decode cX8_giveBack 58 = .ok (.lushr, 1) := by decide +kernel
theorem dX8_giveBack_59 : decode cX8_giveBack 59 = .ok (.lstore_n 3, 1) := by decide +kernel
theorem dX8_giveBack_60 : decode cX8_giveBack 60 = .ok (.iinc 5 1, 3) := by decide +kernel
theorem dX8_giveBack_63 : decode cX8_giveBack 63 = .ok (.goto (-58), 3) := by decide +kernel
theorem dX8_giveBack_66 : decode cX8_giveBack 66 = .ok (.lload_n 3, 1) := by decide +kernel
theorem dX8_giveBack_67 : decode cX8_giveBack 67 = .ok (.aload_n 0, 1) := by decide +kernel
theorem dX8_giveBack_68 : decode cX8_giveBack 68 = .ok (.getfield 9, 3) := by decide +kernel
theorem dX8_giveBack_71 : decode cX8_giveBack 71 = .ok (.iload_n 2, 1) := by decide +kernel
theorem dX8_giveBack_72 : decode cX8_giveBack 72 = .ok (.aload_n 1, 1) := by decide +kernel
theorem dX8_giveBack_73 : decode cX8_giveBack 73 = .ok (.getfield 19, 3) := by decide +kernel
theorem dX8_giveBack_76 : decode cX8_giveBack 76 = .ok (.iadd, 1) := by decide +kernel
theorem dX8_giveBack_77 : decode cX8_giveBack 77 = .ok (.iaload, 1) := by decide +kernel
theorem dX8_giveBack_78 : decode cX8_giveBack 78 = .ok (.i2l, 1) := by decide +kernel
theorem dX8_giveBack_79 : decode cX8_giveBack 79 = .ok (.ldc2_w 23, 3) := by decide +kernel
theorem dX8_giveBack_82 : decode cX8_giveBack 82 = .ok (.land, 1) := by decide +kernel
theorem dX8_giveBack_83 : decode cX8_giveBack 83 = .ok (.ladd, 1) := by decide +kernel
theorem dX8_giveBack_84 : decode cX8_giveBack 84 = .ok (.lstore_n 3, 1) := by decide +kernel
theorem dX8_giveBack_85 : decode cX8_giveBack 85 = .ok (.aload_n 0, 1) := by decide +kernel
theorem dX8_giveBack_86 : decode cX8_giveBack 86 = .ok (.getfield 9, 3) := by decide +kernel
theorem dX8_giveBack_89 : decode cX8_giveBack 89 = .ok (.iload_n 2, 1) := by decide +kernel
theorem dX8_giveBack_90 : decode cX8_giveBack 90 = .ok (.aload_n 1, 1) := by decide +kernel
theorem dX8_giveBack_91 : decode cX8_giveBack 91 = .ok (.getfield 19, 3) := by decide +kernel
theorem dX8_giveBack_94 : decode cX8_giveBack 94 = .ok (.iadd, 1) := by decide +kernel
theorem dX8_giveBack_95 : decode cX8_giveBack 95 = .ok (.lload_n 3, 1) := by decide +kernel
theorem dX8_giveBack_96 : decode cX8_giveBack 96 = .ok (.l2i, 1) := by decide +kernel
theorem dX8_giveBack_97 : decode cX8_giveBack 97 = .ok (.iastore, 1) := by decide +kernel
theorem dX8_giveBack_98 : decode cX8_giveBack 98 = .ok (.lload_n 3, 1) := by decide +kernel
theorem dX8_giveBack_99 : decode cX8_giveBack 99 = .ok (.bipush 32, 2) := by decide +kernel
theorem dX8_giveBack_101 : decode cX8_giveBack 101 = .ok (.lushr, 1) := by decide +kernel
theorem dX8_giveBack_102 : decode cX8_giveBack 102 = .ok (.lconst 0, 1) := by decide +kernel
theorem dX8_giveBack_103 : decode cX8_giveBack 103 = .ok (.lcmp, 1) := by decide +kernel
theorem dX8_giveBack_104 : decode cX8_giveBack 104 = .ok (.ifCond .ne 7, 3) := by decide +kernel
theorem dX8_giveBack_107 : decode cX8_giveBack 107 = .ok (.iconst 1, 1) := by decide +kernel
theorem dX8_giveBack_108 : decode cX8_giveBack 108 = .ok (.goto 4, 3) := by decide +kernel
theorem dX8_giveBack_111 : decode cX8_giveBack 111 = .ok (.iconst 0, 1) := by decide +kernel
theorem dX8_giveBack_112 : decode cX8_giveBack 112 = .ok (.ireturn, 1) := by decide +kernel
theorem dX8_trim_0 : decode cX8_trim 0 = .ok (.aload_n 0, 1) := by decide +kernel
theorem dX8_trim_1 : decode cX8_trim 1 = .ok (.getfield 19, 3) := by decide +kernel
theorem dX8_trim_4 : decode cX8_trim 4 = .ok (.ifCond .le 30, 3) := by decide +kernel
theorem dX8_trim_7 : decode cX8_trim 7 = .ok (.aload_n 0, 1) := by decide +kernel
theorem dX8_trim_8 : decode cX8_trim 8 = .ok (.getfield 9, 3) := by decide +kernel
theorem dX8_trim_11 : decode cX8_trim 11 = .ok (.aload_n 0, 1) := by decide +kernel
theorem dX8_trim_12 : decode cX8_trim 12 = .ok (.getfield 19, 3) := by decide +kernel
theorem dX8_trim_15 : decode cX8_trim 15 = .ok (.iconst 1, 1) := by decide +kernel
theorem dX8_trim_16 : decode cX8_trim 16 = .ok (.isub, 1) := by decide +kernel
theorem dX8_trim_17 : decode cX8_trim 17 = .ok (.iaload, 1) := by decide +kernel
theorem dX8_trim_18 : decode cX8_trim 18 = .ok (.ifCond .ne 16, 3) := by decide +kernel
theorem dX8_trim_21 : decode cX8_trim 21 = .ok (.aload_n 0, 1) := by decide +kernel
theorem dX8_trim_22 : decode cX8_trim 22 = .ok (.dup, 1) := by decide +kernel
theorem dX8_trim_23 : decode cX8_trim 23 = .ok (.getfield 19, 3) := by decide +kernel
theorem dX8_trim_26 : decode cX8_trim 26 = .ok (.iconst 1, 1) := by decide +kernel
theorem dX8_trim_27 : decode cX8_trim 27 = .ok (.isub, 1) := by decide +kernel
theorem dX8_trim_28 : decode cX8_trim 28 = .ok (.putfield 19, 3) := by decide +kernel
theorem dX8_trim_31 : decode cX8_trim 31 = .ok (.goto (-31), 3) := by decide +kernel
theorem dX8_trim_34 : decode cX8_trim 34 = .ok (.return_, 1) := by decide +kernel
theorem dX8_append_0 : decode cX8_append 0 = .ok (.iload_n 1, 1) := by decide +kernel
theorem dX8_append_1 : decode cX8_append 1 = .ok (.ifCond .eq 32, 3) := by decide +kernel
theorem dX8_append_4 : decode cX8_append 4 = .ok (.aload_n 0, 1) := by decide +kernel
theorem dX8_append_5 : decode cX8_append 5 = .ok (.getfield 19, 3) := by decide +kernel
theorem dX8_append_8 : decode cX8_append 8 = .ok (.bipush 16, 2) := by decide +kernel
theorem dX8_append_10 : decode cX8_append 10 = .ok (.if_icmp .ge 23, 3) := by decide +kernel
theorem dX8_append_13 : decode cX8_append 13 = .ok (.aload_n 0, 1) := by decide +kernel
theorem dX8_append_14 : decode cX8_append 14 = .ok (.getfield 9, 3) := by decide +kernel
theorem dX8_append_17 : decode cX8_append 17 = .ok (.aload_n 0, 1) := by decide +kernel
theorem dX8_append_18 : decode cX8_append 18 = .ok (.getfield 19, 3) := by decide +kernel
theorem dX8_append_21 : decode cX8_append 21 = .ok (.iload_n 1, 1) := by decide +kernel
theorem dX8_append_22 : decode cX8_append 22 = .ok (.iastore, 1) := by decide +kernel
theorem dX8_append_23 : decode cX8_append 23 = .ok (.aload_n 0, 1) := by decide +kernel
theorem dX8_append_24 : decode cX8_append 24 = .ok (.dup, 1) := by decide +kernel
theorem dX8_append_25 : decode cX8_append 25 = .ok (.getfield 19, 3) := by decide +kernel
theorem dX8_append_28 : decode cX8_append 28 = .ok (.iconst 1, 1) := by decide +kernel
theorem dX8_append_29 : decode cX8_append 29 = .ok (.iadd, 1) := by decide +kernel
theorem dX8_append_30 : decode cX8_append 30 = .ok (.putfield 19, 3) := by decide +kernel
theorem dX8_append_33 : decode cX8_append 33 = .ok (.return_, 1) := by decide +kernel
theorem dX9_init_0 : decode cX9_init 0 = .ok (.aload_n 0, 1) := by decide +kernel
theorem dX9_init_1 : decode cX9_init 1 = .ok (.invokespecial 1, 3) := by decide +kernel
theorem dX9_init_4 : decode cX9_init 4 = .ok (.iconst 1, 1) := by decide +kernel
theorem dX9_init_5 : decode cX9_init 5 = .ok (.iconst 5, 1) := by decide +kernel
theorem dX9_init_6 : decode cX9_init 6 = .ok (.iload_n 1, 1) := by decide +kernel
theorem dX9_init_7 : decode cX9_init 7 = .ok (.invokestatic 9, 3) := by decide +kernel
theorem dX9_init_10 : decode cX9_init 10 = .ok (.invokestatic 15, 3) := by decide +kernel
theorem dX9_init_13 : decode cX9_init 13 = .ok (.istore_n 2, 1) := by decide +kernel
theorem dX9_init_14 : decode cX9_init 14 = .ok (.new 18, 3) := by decide +kernel
theorem dX9_init_17 : decode cX9_init 17 = .ok (.dup, 1) := by decide +kernel
theorem dX9_init_18 : decode cX9_init 18 = .ok (.invokespecial 20, 3) := by decide +kernel
theorem dX9_init_21 : decode cX9_init 21 = .ok (.astore_n 3, 1) := by decide +kernel
theorem dX9_init_22 : decode cX9_init 22 = .ok (.aload_n 0, 1) := by decide +kernel
theorem dX9_init_23 : decode cX9_init 23 = .ok (.iload_n 2, 1) := by decide +kernel
theorem dX9_init_24 : decode cX9_init 24 = .ok (.putfield 21, 3) := by decide +kernel
theorem dX9_init_27 : decode cX9_init 27 = .ok (.aload_n 0, 1) := by decide +kernel
theorem dX9_init_28 : decode cX9_init 28 = .ok (.aload_n 3, 1) := by decide +kernel
theorem dX9_init_29 : decode cX9_init 29 = .ok (.putfield 25, 3) := by decide +kernel
theorem dX9_init_32 : decode cX9_init 32 = .ok (.aload_n 0, 1) := by decide +kernel
theorem dX9_init_33 : decode cX9_init 33 = .ok (.bipush 40, 2) := by decide +kernel
theorem dX9_init_35 : decode cX9_init 35 = .ok (.invokestatic 29, 3) := by decide +kernel
theorem dX9_init_38 : decode cX9_init 38 = .ok (.putfield 35, 3) := by decide +kernel
theorem dX9_init_41 : decode cX9_init 41 = .ok (.aload_n 0, 1) := by decide +kernel
theorem dX9_init_42 : decode cX9_init 42 = .ok (.iload_n 2, 1) := by decide +kernel
theorem dX9_init_43 : decode cX9_init 43 = .ok (.iload_n 2, 1) := by decide +kernel
theorem dX9_init_44 : decode cX9_init 44 = .ok (.iconst 1, 1) := by decide +kernel
theorem dX9_init_45 : decode cX9_init 45 = .ok (.iadd, 1) := by decide +kernel
theorem dX9_init_46 : decode cX9_init 46 = .ok (.imul, 1) := by decide +kernel
theorem dX9_init_47 : decode cX9_init 47 = .ok (.invokestatic 29, 3) := by decide +kernel
theorem dX9_init_50 : decode cX9_init 50 = .ok (.putfield 39, 3) := by decide +kernel
theorem dX9_init_53 : decode cX9_init 53 = .ok (.aload_n 0, 1) := by decide +kernel
theorem dX9_init_54 : decode cX9_init 54 = .ok (.new 42, 3) := by decide +kernel
theorem dX9_init_57 : decode cX9_init 57 = .ok (.dup, 1) := by decide +kernel
theorem dX9_init_58 : decode cX9_init 58 = .ok (.iload_n 2, 1) := by decide +kernel
theorem dX9_init_59 : decode cX9_init 59 = .ok (.aload_n 3, 1) := by decide +kernel
theorem dX9_init_60 : decode cX9_init 60 = .ok (.invokespecial 44, 3) := by decide +kernel
theorem dX9_init_63 : decode cX9_init 63 = .ok (.putfield 47, 3) := by decide +kernel
theorem dX9_init_66 : decode cX9_init 66 = .ok (.aload_n 0, 1) := by decide +kernel
theorem dX9_init_67 : decode cX9_init 67 = .ok (.new 51, 3) := by decide +kernel
theorem dX9_init_70 : decode cX9_init 70 = .ok (.dup, 1) := by decide +kernel
theorem dX9_init_71 : decode cX9_init 71 = .ok (.iload_n 2, 1) := by decide +kernel
theorem dX9_init_72 : decode cX9_init 72 = .ok (.aload_n 3, 1) := by decide +kernel
theorem dX9_init_73 : decode cX9_init 73 = .ok (.invokespecial 53, 3) := by decide +kernel
theorem dX9_init_76 : decode cX9_init 76 = .ok (.putfield 54, 3) := by decide +kernel
theorem dX9_init_79 : decode cX9_init 79 = .ok (.aload_n 0, 1) := by decide +kernel
theorem dX9_init_80 : decode cX9_init 80 = .ok (.new 58, 3) := by decide +kernel
theorem dX9_init_83 : decode cX9_init 83 = .ok (.dup, 1) := by decide +kernel
theorem dX9_init_84 : decode cX9_init 84 = .ok (.iload_n 2, 1) := by decide +kernel
theorem dX9_init_85 : decode cX9_init 85 = .ok (.aload_n 3, 1) := by decide +kernel
theorem dX9_init_86 : decode cX9_init 86 = .ok (.invokespecial 60, 3) := by decide +kernel
theorem dX9_init_89 : decode cX9_init 89 = .ok (.putfield 61, 3) := by decide +kernel
theorem dX9_init_92 : decode cX9_init 92 = .ok (.aload_n 0, 1) := by decide +kernel
theorem dX9_init_93 : decode cX9_init 93 = .ok (.new 65, 3) := by decide +kernel
theorem dX9_init_96 : decode cX9_init 96 = .ok (.dup, 1) := by decide +kernel
theorem dX9_init_97 : decode cX9_init 97 = .ok (.aload_n 3, 1) := by decide +kernel
theorem dX9_init_98 : decode cX9_init 98 = .ok (.invokespecial 67, 3) := by decide +kernel
theorem dX9_init_101 : decode cX9_init 101 = .ok (.putfield 70, 3) := by decide +kernel
theorem dX9_init_104 : decode cX9_init 104 = .ok (.aload_n 0, 1) := by decide +kernel
theorem dX9_init_105 : decode cX9_init 105 = .ok (.new 74, 3) := by decide +kernel
theorem dX9_init_108 : decode cX9_init 108 = .ok (.dup, 1) := by decide +kernel
theorem dX9_init_109 : decode cX9_init 109 = .ok (.aload_n 3, 1) := by decide +kernel
theorem dX9_init_110 : decode cX9_init 110 = .ok (.invokespecial 76, 3) := by decide +kernel
theorem dX9_init_113 : decode cX9_init 113 = .ok (.putfield 77, 3) := by decide +kernel
theorem dX9_init_116 : decode cX9_init 116 = .ok (.return_, 1) := by decide +kernel
theorem dX9_value_0 : decode cX9_value 0 = .ok (.lload_n 3, 1) := by decide +kernel
theorem dX9_value_1 : decode cX9_value 1 = .ok (.lconst 0, 1) := by decide +kernel
theorem dX9_value_2 : decode cX9_value 2 = .ok (.lcmp, 1) := by decide +kernel
theorem dX9_value_3 : decode cX9_value 3 = .ok (.ifCond .ne 6, 3) := by decide +kernel
theorem dX9_value_6 : decode cX9_value 6 = .ok (.bipush (-2), 2) := by decide +kernel
theorem dX9_value_8 : decode cX9_value 8 = .ok (.ireturn, 1) := by decide +kernel
theorem dX9_value_9 : decode cX9_value 9 = .ok (.aload_n 0, 1) := by decide +kernel
theorem dX9_value_10 : decode cX9_value 10 = .ok (.invokevirtual 81, 3) := by decide +kernel
theorem dX9_value_13 : decode cX9_value 13 = .ok (.ifCond .eq 6, 3) := by decide +kernel
theorem dX9_value_16 : decode cX9_value 16 = .ok (.bipush (-4), 2) := by decide +kernel
theorem dX9_value_18 : decode cX9_value 18 = .ok (.ireturn, 1) := by decide +kernel
theorem dX9_value_19 : decode cX9_value 19 = .ok (.aload_n 0, 1) := by decide +kernel
theorem dX9_value_20 : decode cX9_value 20 = .ok (.getfield 25, 3) := by decide +kernel
theorem dX9_value_23 : decode cX9_value 23 = .ok (.lload_n 1, 1) := by decide +kernel
theorem dX9_value_24 : decode cX9_value 24 = .ok (.lload_n 3, 1) := by decide +kernel
theorem dX9_value_25 : decode cX9_value 25 = .ok (.aload_n 0, 1) := by decide +kernel
theorem dX9_value_26 : decode cX9_value 26 = .ok (.getfield 35, 3) := by decide +kernel
theorem dX9_value_29 : decode cX9_value 29 = .ok (.aload_n 0, 1) := by decide +kernel
theorem dX9_value_30 : decode cX9_value 30 = .ok (.getfield 85, 3) := by decide +kernel
theorem dX9_value_33 : decode cX9_value 33 = .ok (.aaload, 1) := by decide +kernel
theorem dX9_value_34 : decode cX9_value 34 = .ok (.invokevirtual 88, 3) := by decide +kernel
theorem dX9_value_37 : decode cX9_value 37 = .ok (.aload_n 0, 1) := by decide +kernel
theorem dX9_value_38 : decode cX9_value 38 = .ok (.iconst 1, 1) := by decide +kernel
theorem dX9_value_39 : decode cX9_value 39 = .ok (.invokevirtual 92, 3) := by decide +kernel
theorem dX9_value_42 : decode cX9_value 42 = .ok (.ireturn, 1) := by decide +kernel
theorem dX9_act_0 : decode cX9_act 0 = .ok (.iload_n 1, 1) := by decide +kernel
theorem dX9_act_1 : decode cX9_act 1 = .ok (.ifCond .lt 24, 3) := by decide +kernel
theorem dX9_act_4 : decode cX9_act 4 = .ok (.iload_n 1, 1) := by decide +kernel
theorem dX9_act_5 : decode cX9_act 5 = .ok (.iconst 3, 1) := by decide +kernel
theorem dX9_act_6 : decode cX9_act 6 = .ok (.if_icmp .gt 19, 3) := by decide +kernel
theorem dX9_act_9 : decode cX9_act 9 = .ok (.aload_n 0, 1) := by decide +kernel
theorem dX9_act_10 : decode cX9_act 10 = .ok (.iload_n 2, 1) := by decide +kernel
theorem dX9_act_11 : decode cX9_act 11 = .ok (.invokevirtual 96, 3) := by decide +kernel
theorem dX9_act_14 : decode cX9_act 14 = .ok (.ifCond .eq 11, 3) := by decide +kernel
theorem dX9_act_17 : decode cX9_act 17 = .ok (.aload_n 0, 1) := by decide +kernel
theorem dX9_act_18 : decode cX9_act 18 = .ok (.iload_n 3, 1) := by decide +kernel
theorem dX9_act_19 : decode cX9_act 19 = .ok (.invokevirtual 96, 3) := by decide +kernel
theorem dX9_act_22 : decode cX9_act 22 = .ok (.ifCond .ne 5, 3) := by decide +kernel
theorem dX9_act_25 : decode cX9_act 25 = .ok (.iconst (-1), 1) := by decide +kernel
theorem dX9_act_26 : decode cX9_act 26 = .ok (.ireturn, 1) := by decide +kernel
theorem dX9_act_27 : decode cX9_act 27 = .ok (.aload_n 0, 1) := by decide +kernel
theorem dX9_act_28 : decode cX9_act 28 = .ok (.invokevirtual 81, 3) := by decide +kernel
theorem dX9_act_31 : decode cX9_act 31 = .ok (.ifCond .eq 6, 3) := by decide +kernel
theorem dX9_act_34 : decode cX9_act 34 = .ok (.bipush (-4), 2) := by decide +kernel
theorem dX9_act_36 : decode cX9_act 36 = .ok (.ireturn, 1) := by decide +kernel
theorem dX9_act_37 : decode cX9_act 37 = .ok (.iload_n 1, 1) := by decide +kernel
theorem dX9_act_38 : decode cX9_act 38 = .ok (.iconst 3, 1) := by decide +kernel
theorem dX9_act_39 : decode cX9_act 39 = .ok (.if_icmp .ne 18, 3) := by decide +kernel
theorem dX9_act_42 : decode cX9_act 42 = .ok (.aload_n 0, 1) := by decide +kernel
theorem dX9_act_43 : decode cX9_act 43 = .ok (.getfield 35, 3) := by decide +kernel
theorem dX9_act_46 : decode cX9_act 46 = .ok (.iload_n 3, 1) := by decide +kernel
theorem dX9_act_47 : decode cX9_act 47 = .ok (.aaload, 1) := by decide +kernel
theorem dX9_act_48 : decode cX9_act 48 = .ok (.invokevirtual 100, 3) := by decide +kernel
theorem dX9_act_51 : decode cX9_act 51 = .ok (.ifCond .eq 6, 3) := by decide +kernel
theorem dX9_act_54 : decode cX9_act 54 = .ok (.bipush (-2), 2) := by decide +kernel
theorem dX9_act_56 : decode cX9_act 56 = .ok (.ireturn, 1) := by decide +kernel
theorem dX9_act_57 : decode cX9_act 57 = .ok (.aload_n 0, 1) := by decide +kernel
theorem dX9_act_58 : decode cX9_act 58 = .ok (.getfield 35, 3) := by decide +kernel
theorem dX9_act_61 : decode cX9_act 61 = .ok (.aload_n 0, 1) := by decide +kernel
theorem dX9_act_62 : decode cX9_act 62 = .ok (.getfield 85, 3) := by decide +kernel
theorem dX9_act_65 : decode cX9_act 65 = .ok (.aaload, 1) := by decide +kernel
theorem dX9_act_66 : decode cX9_act 66 = .ok (.astore 4, 2) := by decide +kernel
theorem dX9_act_68 : decode cX9_act 68 = .ok (.iload_n 1, 1) := by decide +kernel
theorem dX9_act_69 : decode cX9_act 69 = .ok (.iconst 2, 1) := by decide +kernel
theorem dX9_act_70 : decode cX9_act 70 = .ok (.if_icmp .ge 39, 3) := by decide +kernel
theorem dX9_act_73 : decode cX9_act 73 = .ok (.aload_n 0, 1) := by decide +kernel
theorem dX9_act_74 : decode cX9_act 74 = .ok (.aload_n 0, 1) := by decide +kernel
theorem dX9_act_75 : decode cX9_act 75 = .ok (.getfield 25, 3) := by decide +kernel
theorem dX9_act_78 : decode cX9_act 78 = .ok (.aload_n 0, 1) := by decide +kernel
theorem dX9_act_79 : decode cX9_act 79 = .ok (.getfield 35, 3) := by decide +kernel
theorem dX9_act_82 : decode cX9_act 82 = .ok (.iload_n 2, 1) := by decide +kernel
theorem dX9_act_83 : decode cX9_act 83 = .ok (.aaload, 1) := by decide +kernel
theorem dX9_act_84 : decode cX9_act 84 = .ok (.aload_n 0, 1) := by decide +kernel
theorem dX9_act_85 : decode cX9_act 85 = .ok (.getfield 35, 3) := by decide +kernel
theorem dX9_act_88 : decode cX9_act 88 = .ok (.iload_n 3, 1) := by decide +kernel
theorem dX9_act_89 : decode cX9_act 89 = .ok (.aaload, 1) := by decide +kernel
theorem dX9_act_90 : decode cX9_act 90 = .ok (.iload_n 1, 1) := by decide +kernel
theorem dX9_act_91 : decode cX9_act 91 = .ok (.iconst 1, 1) := by decide +kernel
theorem dX9_act_92 : decode cX9_act 92 = .ok (.if_icmp .ne 7, 3) := by decide +kernel
theorem dX9_act_95 : decode cX9_act 95 = .ok (.iconst 1, 1) := by decide +kernel
theorem dX9_act_96 : decode cX9_act 96 = .ok (.goto 4, 3) := by decide +kernel
theorem dX9_act_99 : decode cX9_act 99 = .ok (.iconst 0, 1) := by decide +kernel
theorem dX9_act_100 : decode cX9_act 100 = .ok (.aload 4, 2) := by decide +kernel
theorem dX9_act_102 : decode cX9_act 102 = .ok (.invokevirtual 103, 3) := by decide +kernel
theorem dX9_act_105 : decode cX9_act 105 = .ok (.invokevirtual 92, 3) := by decide +kernel
theorem dX9_act_108 : decode cX9_act 108 = .ok (.ireturn, 1) := by decide +kernel
theorem dX9_act_109 : decode cX9_act 109 = .ok (.aload_n 0, 1) := by decide +kernel
theorem dX9_act_110 : decode cX9_act 110 = .ok (.aload_n 0, 1) := by decide +kernel
theorem dX9_act_111 : decode cX9_act 111 = .ok (.getfield 25, 3) := by decide +kernel
theorem dX9_act_114 : decode cX9_act 114 = .ok (.aload_n 0, 1) := by decide +kernel
theorem dX9_act_115 : decode cX9_act 115 = .ok (.getfield 35, 3) := by decide +kernel
theorem dX9_act_118 : decode cX9_act 118 = .ok (.iload_n 2, 1) := by decide +kernel
theorem dX9_act_119 : decode cX9_act 119 = .ok (.aaload, 1) := by decide +kernel
theorem dX9_act_120 : decode cX9_act 120 = .ok (.aload_n 0, 1) := by decide +kernel
theorem dX9_act_121 : decode cX9_act 121 = .ok (.getfield 35, 3) := by decide +kernel
theorem dX9_act_124 : decode cX9_act 124 = .ok (.iload_n 3, 1) := by decide +kernel
theorem dX9_act_125 : decode cX9_act 125 = .ok (.aaload, 1) := by decide +kernel
theorem dX9_act_126 : decode cX9_act 126 = .ok (.iload_n 1, 1) := by decide +kernel
theorem dX9_act_127 : decode cX9_act 127 = .ok (.iconst 3, 1) := by decide +kernel
theorem dX9_act_128 : decode cX9_act 128 = .ok (.if_icmp .ne 7, 3) := by decide +kernel
theorem dX9_act_131 : decode cX9_act 131 = .ok (.iconst 1, 1) := by decide +kernel
theorem dX9_act_132 : decode cX9_act 132 = .ok (.goto 4, 3) := by decide +kernel
theorem dX9_act_135 : decode cX9_act 135 = .ok (.iconst 0, 1) := by decide +kernel
theorem dX9_act_136 : decode cX9_act 136 = .ok (.aload 4, 2) := by decide +kernel
theorem dX9_act_138 : decode cX9_act 138 = .ok (.invokevirtual 107, 3) := by decide +kernel
theorem dX9_act_141 : decode cX9_act 141 = .ok (.invokevirtual 92, 3) := by decide +kernel
theorem dX9_act_144 : decode cX9_act 144 = .ok (.ireturn, 1) := by decide +kernel
theorem dX9_quotient_0 : decode cX9_quotient 0 = .ok (.aload_n 0, 1) := by decide +kernel
theorem dX9_quotient_1 : decode cX9_quotient 1 = .ok (.iload_n 1, 1) := by decide +kernel
theorem dX9_quotient_2 : decode cX9_quotient 2 = .ok (.invokevirtual 96, 3) := by decide +kernel
theorem dX9_quotient_5 : decode cX9_quotient 5 = .ok (.ifCond .eq 11, 3) := by decide +kernel
theorem dX9_quotient_8 : decode cX9_quotient 8 = .ok (.aload_n 0, 1) := by decide +kernel
theorem dX9_quotient_9 : decode cX9_quotient 9 = .ok (.iload_n 2, 1) := by decide +kernel
theorem dX9_quotient_10 : decode cX9_quotient 10 = .ok (.invokevirtual 96, 3) := by decide +kernel
theorem dX9_quotient_13 : decode cX9_quotient 13 = .ok (.ifCond .ne 5, 3) := by decide +kernel
theorem dX9_quotient_16 : decode cX9_quotient 16 = .ok (.iconst (-1), 1) := by decide +kernel
theorem dX9_quotient_17 : decode cX9_quotient 17 = .ok (.ireturn, 1) := by decide +kernel
theorem dX9_quotient_18 : decode cX9_quotient 18 = .ok (.aload_n 0, 1) := by decide +kernel
theorem dX9_quotient_19 : decode cX9_quotient 19 = .ok (.invokevirtual 81, 3) := by decide +kernel
theorem dX9_quotient_22 : decode cX9_quotient 22 = .ok (.ifCond .eq 6, 3) := by decide +kernel
theorem dX9_quotient_25 : decode cX9_quotient 25 = .ok (.bipush (-4), 2) := by decide +kernel
theorem dX9_quotient_27 : decode cX9_quotient 27 = .ok (.ireturn, 1) := by decide +kernel
theorem dX9_quotient_28 : decode cX9_quotient 28 = .ok (.aload_n 0, 1) := by decide +kernel
theorem dX9_quotient_29 : decode cX9_quotient 29 = .ok (.getfield 35, 3) := by decide +kernel
theorem dX9_quotient_32 : decode cX9_quotient 32 = .ok (.iload_n 2, 1) := by decide +kernel
theorem dX9_quotient_33 : decode cX9_quotient 33 = .ok (.aaload, 1) := by decide +kernel
theorem dX9_quotient_34 : decode cX9_quotient 34 = .ok (.invokevirtual 100, 3) := by decide +kernel
theorem dX9_quotient_37 : decode cX9_quotient 37 = .ok (.ifCond .eq 13, 3) := by decide +kernel
theorem dX9_quotient_40 : decode cX9_quotient 40 = .ok (.new 110, 3) := by decide +kernel
theorem dX9_quotient_43 : decode cX9_quotient 43 = .ok (.dup, 1) := by decide +kernel
theorem dX9_quotient_44 : decode cX9_quotient 44 = .ok (.ldc 112, 2) := by decide +kernel
theorem dX9_quotient_46 : decode cX9_quotient 46 = .ok (.invokespecial 114, 3) := by decide +kernel
theorem dX9_quotient_49 : decode cX9_quotient 49 = .ok (.athrow, 1) := by decide +kernel
theorem dX9_quotient_50 : decode cX9_quotient 50 = .ok (.aload_n 0, 1) := by decide +kernel
theorem dX9_quotient_51 : decode cX9_quotient 51 = .ok (.aload_n 0, 1) := by decide +kernel
theorem dX9_quotient_52 : decode cX9_quotient 52 = .ok (.getfield 25, 3) := by decide +kernel
theorem dX9_quotient_55 : decode cX9_quotient 55 = .ok (.aload_n 0, 1) := by decide +kernel
theorem dX9_quotient_56 : decode cX9_quotient 56 = .ok (.getfield 35, 3) := by decide +kernel
theorem dX9_quotient_59 : decode cX9_quotient 59 = .ok (.iload_n 1, 1) := by decide +kernel
theorem dX9_quotient_60 : decode cX9_quotient 60 = .ok (.aaload, 1) := by decide +kernel
theorem dX9_quotient_61 : decode cX9_quotient 61 = .ok (.aload_n 0, 1) := by decide +kernel
theorem dX9_quotient_62 : decode cX9_quotient 62 = .ok (.getfield 35, 3) := by decide +kernel
theorem dX9_quotient_65 : decode cX9_quotient 65 = .ok (.iload_n 2, 1) := by decide +kernel
theorem dX9_quotient_66 : decode cX9_quotient 66 = .ok (.aaload, 1) := by decide +kernel
theorem dX9_quotient_67 : decode cX9_quotient 67 = .ok (.iconst 1, 1) := by decide +kernel
theorem dX9_quotient_68 : decode cX9_quotient 68 = .ok (.aload_n 0, 1) := by decide +kernel
theorem dX9_quotient_69 : decode cX9_quotient 69 = .ok (.getfield 35, 3) := by decide +kernel
theorem dX9_quotient_72 : decode cX9_quotient 72 = .ok (.aload_n 0, 1) := by decide +kernel
theorem dX9_quotient_73 : decode cX9_quotient 73 = .ok (.getfield 85, 3) := by decide +kernel
theorem dX9_quotient_76 : decode cX9_quotient 76 = .ok (.aaload, 1) := by decide +kernel
theorem dX9_quotient_77 : decode cX9_quotient 77 = .ok (.invokevirtual 107, 3) := by decide +kernel
theorem dX9_quotient_80 : decode cX9_quotient 80 = .ok (.invokevirtual 92, 3) := by decide +kernel
theorem dX9_quotient_83 : decode cX9_quotient 83 = .ok (.ireturn, 1) := by decide +kernel
theorem dX9_drop_0 : decode cX9_drop 0 = .ok (.aload_n 0, 1) := by decide +kernel
theorem dX9_drop_1 : decode cX9_drop 1 = .ok (.getfield 85, 3) := by decide +kernel
theorem dX9_drop_4 : decode cX9_drop 4 = .ok (.ifCond .ne 6, 3) := by decide +kernel
theorem dX9_drop_7 : decode cX9_drop 7 = .ok (.bipush (-5), 2) := by decide +kernel
theorem dX9_drop_9 : decode cX9_drop 9 = .ok (.ireturn, 1) := by decide +kernel
theorem dX9_drop_10 : decode cX9_drop 10 = .ok (.aload_n 0, 1) := by decide +kernel
theorem dX9_drop_11 : decode cX9_drop 11 = .ok (.dup, 1) := by decide +kernel
theorem dX9_drop_12 : decode cX9_drop 12 = .ok (.getfield 85, 3) := by decide +kernel
theorem dX9_drop_15 : decode cX9_drop 15 = .ok (.iconst 1, 1) := by decide +kernel
theorem dX9_drop_16 : decode cX9_drop 16 = .ok (.isub, 1) := by decide +kernel
theorem dX9_drop_17 : decode cX9_drop 17 = .ok (.putfield 85, 3) := by decide +kernel
theorem dX9_drop_20 : decode cX9_drop 20 = .ok (.aload_n 0, 1) := by decide +kernel
theorem dX9_drop_21 : decode cX9_drop 21 = .ok (.getfield 85, 3) := by decide +kernel
theorem dX9_drop_24 : decode cX9_drop 24 = .ok (.ireturn, 1) := by decide +kernel
theorem dX9_compare_0 : decode cX9_compare 0 = .ok (.aload_n 0, 1) := by decide +kernel
theorem dX9_compare_1 : decode cX9_compare 1 = .ok (.iload_n 1, 1) := by decide +kernel
theorem dX9_compare_2 : decode cX9_compare 2 = .ok (.invokevirtual 96, 3) := by decide +kernel
theorem dX9_compare_5 : decode cX9_compare 5 = .ok (.ifCond .eq 11, 3) := by decide +kernel
theorem dX9_compare_8 : decode cX9_compare 8 = .ok (.aload_n 0, 1) := by decide +kernel
theorem dX9_compare_9 : decode cX9_compare 9 = .ok (.iload_n 2, 1) := by decide +kernel
theorem dX9_compare_10 : decode cX9_compare 10 = .ok (.invokevirtual 96, 3) := by decide +kernel
theorem dX9_compare_13 : decode cX9_compare 13 = .ok (.ifCond .ne 6, 3) := by decide +kernel
theorem dX9_compare_16 : decode cX9_compare 16 = .ok (.bipush (-2), 2) := by decide +kernel
theorem dX9_compare_18 : decode cX9_compare 18 = .ok (.ireturn, 1) := by decide +kernel
theorem dX9_compare_19 : decode cX9_compare 19 = .ok (.aload_n 0, 1) := by decide +kernel
theorem dX9_compare_20 : decode cX9_compare 20 = .ok (.getfield 25, 3) := by decide +kernel
theorem dX9_compare_23 : decode cX9_compare 23 = .ok (.aload_n 0, 1) := by decide +kernel
theorem dX9_compare_24 : decode cX9_compare 24 = .ok (.getfield 35, 3) := by decide +kernel
theorem dX9_compare_27 : decode cX9_compare 27 = .ok (.iload_n 1, 1) := by decide +kernel
theorem dX9_compare_28 : decode cX9_compare 28 = .ok (.aaload, 1) := by decide +kernel
theorem dX9_compare_29 : decode cX9_compare 29 = .ok (.aload_n 0, 1) := by decide +kernel
theorem dX9_compare_30 : decode cX9_compare 30 = .ok (.getfield 35, 3) := by decide +kernel
theorem dX9_compare_33 : decode cX9_compare 33 = .ok (.iload_n 2, 1) := by decide +kernel
theorem dX9_compare_34 : decode cX9_compare 34 = .ok (.aaload, 1) := by decide +kernel
theorem dX9_compare_35 : decode cX9_compare 35 = .ok (.invokevirtual 117, 3) := by decide +kernel
theorem dX9_compare_38 : decode cX9_compare 38 = .ok (.ireturn, 1) := by decide +kernel
theorem dX9_about_0 : decode cX9_about 0 = .ok (.aload_n 0, 1) := by decide +kernel
theorem dX9_about_1 : decode cX9_about 1 = .ok (.iload_n 1, 1) := by decide +kernel
theorem dX9_about_2 : decode cX9_about 2 = .ok (.invokevirtual 96, 3) := by decide +kernel
theorem dX9_about_5 : decode cX9_about 5 = .ok (.ifCond .ne 5, 3) := by decide +kernel
theorem dX9_about_8 : decode cX9_about 8 = .ok (.iconst (-1), 1) := by decide +kernel
theorem dX9_about_9 : decode cX9_about 9 = .ok (.ireturn, 1) := by decide +kernel
theorem dX9_about_10 : decode cX9_about 10 = .ok (.aload_n 0, 1) := by decide +kernel
theorem dX9_about_11 : decode cX9_about 11 = .ok (.getfield 35, 3) := by decide +kernel
theorem dX9_about_14 : decode cX9_about 14 = .ok (.iload_n 1, 1) := by decide +kernel
theorem dX9_about_15 : decode cX9_about 15 = .ok (.aaload, 1) := by decide +kernel
theorem dX9_about_16 : decode cX9_about 16 = .ok (.astore_n 3, 1) := by decide +kernel
theorem dX9_about_17 : decode cX9_about 17 = .ok (.iload_n 2, 1) := by decide +kernel
theorem dX9_about_18 : decode cX9_about 18 = .ok (.tableswitch 64 0 3 #[30, 43, 51, 59], 30) := by decide +kernel
theorem dX9_about_48 : decode cX9_about 48 = .ok (.aload_n 3, 1) := by decide +kernel
theorem dX9_about_49 : decode cX9_about 49 = .ok (.getfield 121, 3) := by decide +kernel
theorem dX9_about_52 : decode cX9_about 52 = .ok (.ifCond .eq 7, 3) := by decide +kernel
theorem dX9_about_55 : decode cX9_about 55 = .ok (.iconst 1, 1) := by decide +kernel
theorem dX9_about_56 : decode cX9_about 56 = .ok (.goto 4, 3) := by decide +kernel
theorem dX9_about_59 : decode cX9_about 59 = .ok (.iconst 0, 1) := by decide +kernel
theorem dX9_about_60 : decode cX9_about 60 = .ok (.ireturn, 1) := by decide +kernel
theorem dX9_about_61 : decode cX9_about 61 = .ok (.aload_n 3, 1) := by decide +kernel
theorem dX9_about_62 : decode cX9_about 62 = .ok (.getfield 125, 3) := by decide +kernel
theorem dX9_about_65 : decode cX9_about 65 = .ok (.getfield 129, 3) := by decide +kernel
theorem dX9_about_68 : decode cX9_about 68 = .ok (.ireturn, 1) := by decide +kernel
theorem dX9_about_69 : decode cX9_about 69 = .ok (.aload_n 3, 1) := by decide +kernel
theorem dX9_about_70 : decode cX9_about 70 = .ok (.getfield 134, 3) := by decide +kernel
theorem dX9_about_73 : decode cX9_about 73 = .ok (.getfield 129, 3) := by decide +kernel
theorem dX9_about_76 : decode cX9_about 76 = .ok (.ireturn, 1) := by decide +kernel
theorem dX9_about_77 : decode cX9_about 77 = .ok (.aload_n 3, 1) := by decide +kernel
theorem dX9_about_78 : decode cX9_about 78 = .ok (.invokevirtual 137, 3) := by decide +kernel
theorem dX9_about_81 : decode cX9_about 81 = .ok (.ireturn, 1) := by decide +kernel
theorem dX9_about_82 : decode cX9_about 82 = .ok (.iconst (-1), 1) := by decide +kernel
theorem dX9_about_83 : decode cX9_about 83 = .ok (.ireturn, 1) := by decide +kernel
theorem dX9_limb_0 : decode cX9_limb 0 = .ok (.aload_n 0, 1) := by decide +kernel
theorem dX9_limb_1 : decode cX9_limb 1 = .ok (.iload_n 1, 1) := by decide +kernel
theorem dX9_limb_2 : decode cX9_limb 2 = .ok (.invokevirtual 96, 3) := by decide +kernel
theorem dX9_limb_5 : decode cX9_limb 5 = .ok (.ifCond .ne 13, 3) := by decide +kernel
theorem dX9_limb_8 : decode cX9_limb 8 = .ok (.new 141, 3) := by decide +kernel
theorem dX9_limb_11 : decode cX9_limb 11 = .ok (.dup, 1) := by decide +kernel
theorem dX9_limb_12 : decode cX9_limb 12 = .ok (.ldc 143, 2) := by decide +kernel
theorem dX9_limb_14 : decode cX9_limb 14 = .ok (.invokespecial 145, 3) := by decide +kernel
theorem dX9_limb_17 : decode cX9_limb 17 = .ok (.athrow, 1) := by decide +kernel
theorem dX9_limb_18 : decode cX9_limb 18 = .ok (.iload_n 2, 1) := by decide +kernel
theorem dX9_limb_19 : decode cX9_limb 19 = .ok (.ifCond .eq 18, 3) := by decide +kernel
theorem dX9_limb_22 : decode cX9_limb 22 = .ok (.iload_n 2, 1) := by decide +kernel
theorem dX9_limb_23 : decode cX9_limb 23 = .ok (.iconst 1, 1) := by decide +kernel
theorem dX9_limb_24 : decode cX9_limb 24 = .ok (.if_icmp .eq 13, 3) := by decide +kernel
theorem dX9_limb_27 : decode cX9_limb 27 = .ok (.new 141, 3) := by decide +kernel
theorem dX9_limb_30 : decode cX9_limb 30 = .ok (.dup, 1) := by decide +kernel
theorem dX9_limb_31 : decode cX9_limb 31 = .ok (.ldc 146, 2) := by decide +kernel
theorem dX9_limb_33 : decode cX9_limb 33 = .ok (.invokespecial 145, 3) := by decide +kernel
theorem dX9_limb_36 : decode cX9_limb 36 = .ok (.athrow, 1) := by decide +kernel
theorem dX9_limb_37 : decode cX9_limb 37 = .ok (.iload_n 2, 1) := by decide +kernel
theorem dX9_limb_38 : decode cX9_limb 38 = .ok (.ifCond .ne 15, 3) := by decide +kernel
theorem dX9_limb_41 : decode cX9_limb 41 = .ok (.aload_n 0, 1) := by decide +kernel
theorem dX9_limb_42 : decode cX9_limb 42 = .ok (.getfield 35, 3) := by decide +kernel
theorem dX9_limb_45 : decode cX9_limb 45 = .ok (.iload_n 1, 1) := by decide +kernel
theorem dX9_limb_46 : decode cX9_limb 46 = .ok (.aaload, 1) := by decide +kernel
theorem dX9_limb_47 : decode cX9_limb 47 = .ok (.getfield 125, 3) := by decide +kernel
theorem dX9_limb_50 : decode cX9_limb 50 = .ok (.goto 12, 3) := by decide +kernel
theorem dX9_limb_53 : decode cX9_limb 53 = .ok (.aload_n 0, 1) := by decide +kernel
theorem dX9_limb_54 : decode cX9_limb 54 = .ok (.getfield 35, 3) := by decide +kernel
theorem dX9_limb_57 : decode cX9_limb 57 = .ok (.iload_n 1, 1) := by decide +kernel
theorem dX9_limb_58 : decode cX9_limb 58 = .ok (.aaload, 1) := by decide +kernel
theorem dX9_limb_59 : decode cX9_limb 59 = .ok (.getfield 134, 3) := by decide +kernel
theorem dX9_limb_62 : decode cX9_limb 62 = .ok (.astore 4, 2) := by decide +kernel
theorem dX9_limb_64 : decode cX9_limb 64 = .ok (.iload_n 3, 1) := by decide +kernel
theorem dX9_limb_65 : decode cX9_limb 65 = .ok (.ifCond .lt 12, 3) := by decide +kernel
theorem dX9_limb_68 : decode cX9_limb 68 = .ok (.iload_n 3, 1) := by decide +kernel
theorem dX9_limb_69 : decode cX9_limb 69 = .ok (.aload 4, 2) := by decide +kernel
theorem dX9_limb_71 : decode cX9_limb 71 = .ok (.getfield 129, 3) := by decide +kernel
theorem dX9_limb_74 : decode cX9_limb 74 = .ok (.if_icmp .lt 13, 3) := by decide +kernel
theorem dX9_limb_77 : decode cX9_limb 77 = .ok (.new 141, 3) := by decide +kernel
theorem dX9_limb_80 : decode cX9_limb 80 = .ok (.dup, 1) := by decide +kernel
theorem dX9_limb_81 : decode cX9_limb 81 = .ok (.ldc 148, 2) := by decide +kernel
theorem dX9_limb_83 : decode cX9_limb 83 = .ok (.invokespecial 145, 3) := by decide +kernel
theorem dX9_limb_86 : decode cX9_limb 86 = .ok (.athrow, 1) := by decide +kernel
theorem dX9_limb_87 : decode cX9_limb 87 = .ok (.aload 4, 2) := by decide +kernel
theorem dX9_limb_89 : decode cX9_limb 89 = .ok (.getfield 150, 3) := by decide +kernel
theorem dX9_limb_92 : decode cX9_limb 92 = .ok (.iload_n 3, 1) := by decide +kernel
theorem dX9_limb_93 : decode cX9_limb 93 = .ok (.iaload, 1) := by decide +kernel
theorem dX9_limb_94 : decode cX9_limb 94 = .ok (.ireturn, 1) := by decide +kernel
theorem dX9_entry_0 : decode cX9_entry 0 = .ok (.aload_n 0, 1) := by decide +kernel
theorem dX9_entry_1 : decode cX9_entry 1 = .ok (.iload_n 1, 1) := by decide +kernel
theorem dX9_entry_2 : decode cX9_entry 2 = .ok (.iload_n 2, 1) := by decide +kernel
theorem dX9_entry_3 : decode cX9_entry 3 = .ok (.invokevirtual 154, 3) := by decide +kernel
theorem dX9_entry_6 : decode cX9_entry 6 = .ok (.ifCond .ne 5, 3) := by decide +kernel
theorem dX9_entry_9 : decode cX9_entry 9 = .ok (.iconst (-1), 1) := by decide +kernel
theorem dX9_entry_10 : decode cX9_entry 10 = .ok (.ireturn, 1) := by decide +kernel
theorem dX9_entry_11 : decode cX9_entry 11 = .ok (.lload 5, 2) := by decide +kernel
theorem dX9_entry_13 : decode cX9_entry 13 = .ok (.lconst 0, 1) := by decide +kernel
theorem dX9_entry_14 : decode cX9_entry 14 = .ok (.lcmp, 1) := by decide +kernel
theorem dX9_entry_15 : decode cX9_entry 15 = .ok (.ifCond .ne 6, 3) := by decide +kernel
theorem dX9_entry_18 : decode cX9_entry 18 = .ok (.bipush (-2), 2) := by decide +kernel
theorem dX9_entry_20 : decode cX9_entry 20 = .ok (.ireturn, 1) := by decide +kernel
theorem dX9_entry_21 : decode cX9_entry 21 = .ok (.aload_n 0, 1) := by decide +kernel
theorem dX9_entry_22 : decode cX9_entry 22 = .ok (.getfield 25, 3) := by decide +kernel
theorem dX9_entry_25 : decode cX9_entry 25 = .ok (.lload_n 3, 1) := by decide +kernel
theorem dX9_entry_26 : decode cX9_entry 26 = .ok (.lload 5, 2) := by decide +kernel
theorem dX9_entry_28 : decode cX9_entry 28 = .ok (.aload_n 0, 1) := by decide +kernel
theorem dX9_entry_29 : decode cX9_entry 29 = .ok (.iload_n 1, 1) := by decide +kernel
theorem dX9_entry_30 : decode cX9_entry 30 = .ok (.iload_n 2, 1) := by decide +kernel
theorem dX9_entry_31 : decode cX9_entry 31 = .ok (.invokevirtual 158, 3) := by decide +kernel
theorem dX9_entry_34 : decode cX9_entry 34 = .ok (.invokevirtual 88, 3) := by decide +kernel
theorem dX9_entry_37 : decode cX9_entry 37 = .ok (.iconst 1, 1) := by decide +kernel
theorem dX9_entry_38 : decode cX9_entry 38 = .ok (.ireturn, 1) := by decide +kernel
theorem dX9_put_0 : decode cX9_put 0 = .ok (.aload_n 0, 1) := by decide +kernel
theorem dX9_put_1 : decode cX9_put 1 = .ok (.iload_n 1, 1) := by decide +kernel
theorem dX9_put_2 : decode cX9_put 2 = .ok (.iload_n 2, 1) := by decide +kernel
theorem dX9_put_3 : decode cX9_put 3 = .ok (.invokevirtual 154, 3) := by decide +kernel
theorem dX9_put_6 : decode cX9_put 6 = .ok (.ifCond .eq 11, 3) := by decide +kernel
theorem dX9_put_9 : decode cX9_put 9 = .ok (.aload_n 0, 1) := by decide +kernel
theorem dX9_put_10 : decode cX9_put 10 = .ok (.iload_n 3, 1) := by decide +kernel
theorem dX9_put_11 : decode cX9_put 11 = .ok (.invokevirtual 96, 3) := by decide +kernel
theorem dX9_put_14 : decode cX9_put 14 = .ok (.ifCond .ne 5, 3) := by decide +kernel
theorem dX9_put_17 : decode cX9_put 17 = .ok (.iconst (-1), 1) := by decide +kernel
theorem dX9_put_18 : decode cX9_put 18 = .ok (.ireturn, 1) := by decide +kernel
theorem dX9_put_19 : decode cX9_put 19 = .ok (.aload_n 0, 1) := by decide +kernel
theorem dX9_put_20 : decode cX9_put 20 = .ok (.iload_n 1, 1) := by decide +kernel
theorem dX9_put_21 : decode cX9_put 21 = .ok (.iload_n 2, 1) := by decide +kernel
theorem dX9_put_22 : decode cX9_put 22 = .ok (.invokevirtual 158, 3) := by decide +kernel
theorem dX9_put_25 : decode cX9_put 25 = .ok (.aload_n 0, 1) := by decide +kernel
theorem dX9_put_26 : decode cX9_put 26 = .ok (.getfield 35, 3) := by decide +kernel
theorem dX9_put_29 : decode cX9_put 29 = .ok (.iload_n 3, 1) := by decide +kernel
theorem dX9_put_30 : decode cX9_put 30 = .ok (.aaload, 1) := by decide +kernel
theorem dX9_put_31 : decode cX9_put 31 = .ok (.invokevirtual 162, 3) := by decide +kernel
theorem dX9_put_34 : decode cX9_put 34 = .ok (.iconst 1, 1) := by decide +kernel
theorem dX9_put_35 : decode cX9_put 35 = .ok (.ireturn, 1) := by decide +kernel
theorem dX9_take_0 : decode cX9_take 0 = .ok (.aload_n 0, 1) := by decide +kernel
theorem dX9_take_1 : decode cX9_take 1 = .ok (.iload_n 1, 1) := by decide +kernel
theorem dX9_take_2 : decode cX9_take 2 = .ok (.iload_n 2, 1) := by decide +kernel
theorem dX9_take_3 : decode cX9_take 3 = .ok (.invokevirtual 154, 3) := by decide +kernel
theorem dX9_take_6 : decode cX9_take 6 = .ok (.ifCond .ne 5, 3) := by decide +kernel
theorem dX9_take_9 : decode cX9_take 9 = .ok (.iconst (-1), 1) := by decide +kernel
theorem dX9_take_10 : decode cX9_take 10 = .ok (.ireturn, 1) := by decide +kernel
theorem dX9_take_11 : decode cX9_take 11 = .ok (.aload_n 0, 1) := by decide +kernel
theorem dX9_take_12 : decode cX9_take 12 = .ok (.aload_n 0, 1) := by decide +kernel
theorem dX9_take_13 : decode cX9_take 13 = .ok (.iload_n 1, 1) := by decide +kernel
theorem dX9_take_14 : decode cX9_take 14 = .ok (.iload_n 2, 1) := by decide +kernel
theorem dX9_take_15 : decode cX9_take 15 = .ok (.invokevirtual 158, 3) := by decide +kernel
theorem dX9_take_18 : decode cX9_take 18 = .ok (.invokevirtual 166, 3) := by decide +kernel
theorem dX9_take_21 : decode cX9_take 21 = .ok (.ireturn, 1) := by decide +kernel
theorem dX9_solve_0 : decode cX9_solve 0 = .ok (.iload_n 1, 1) := by decide +kernel
theorem dX9_solve_1 : decode cX9_solve 1 = .ok (.ifCond .eq 10, 3) := by decide +kernel
theorem dX9_solve_4 : decode cX9_solve 4 = .ok (.iload_n 1, 1) := by decide +kernel
theorem dX9_solve_5 : decode cX9_solve 5 = .ok (.iconst 1, 1) := by decide +kernel
theorem dX9_solve_6 : decode cX9_solve 6 = .ok (.if_icmp .eq 5, 3) := by decide +kernel
theorem dX9_solve_9 : decode cX9_solve 9 = .ok (.iconst (-1), 1) := by decide +kernel
theorem dX9_solve_10 : decode cX9_solve 10 = .ok (.ireturn, 1) := by decide +kernel
theorem dX9_solve_11 : decode cX9_solve 11 = .ok (.aload_n 0, 1) := by decide +kernel
theorem dX9_solve_12 : decode cX9_solve 12 = .ok (.getfield 61, 3) := by decide +kernel
theorem dX9_solve_15 : decode cX9_solve 15 = .ok (.invokevirtual 170, 3) := by decide +kernel
theorem dX9_solve_18 : decode cX9_solve 18 = .ok (.aload_n 0, 1) := by decide +kernel
theorem dX9_solve_19 : decode cX9_solve 19 = .ok (.getfield 47, 3) := by decide +kernel
theorem dX9_solve_22 : decode cX9_solve 22 = .ok (.aload_n 0, 1) := by decide +kernel
theorem dX9_solve_23 : decode cX9_solve 23 = .ok (.getfield 39, 3) := by decide +kernel
theorem dX9_solve_26 : decode cX9_solve 26 = .ok (.iload_n 1, 1) := by decide +kernel
theorem dX9_solve_27 : decode cX9_solve 27 = .ok (.aload_n 0, 1) := by decide +kernel
theorem dX9_solve_28 : decode cX9_solve 28 = .ok (.getfield 21, 3) := by decide +kernel
theorem dX9_solve_31 : decode cX9_solve 31 = .ok (.iconst 1, 1) := by decide +kernel
theorem dX9_solve_32 : decode cX9_solve 32 = .ok (.iadd, 1) := by decide +kernel
theorem dX9_solve_33 : decode cX9_solve 33 = .ok (.invokevirtual 173, 3) := by decide +kernel
theorem dX9_solve_36 : decode cX9_solve 36 = .ok (.ifCond .eq 17, 3) := by decide +kernel
theorem dX9_solve_39 : decode cX9_solve 39 = .ok (.aload_n 0, 1) := by decide +kernel
theorem dX9_solve_40 : decode cX9_solve 40 = .ok (.getfield 61, 3) := by decide +kernel
theorem dX9_solve_43 : decode cX9_solve 43 = .ok (.aload_n 0, 1) := by decide +kernel
theorem dX9_solve_44 : decode cX9_solve 44 = .ok (.getfield 47, 3) := by decide +kernel
theorem dX9_solve_47 : decode cX9_solve 47 = .ok (.invokevirtual 177, 3) := by decide +kernel
theorem dX9_solve_50 : decode cX9_solve 50 = .ok (.ifCond .ne 8, 3) := by decide +kernel
theorem dX9_solve_53 : decode cX9_solve 53 = .ok (.aload_n 0, 1) := by decide +kernel
theorem dX9_solve_54 : decode cX9_solve 54 = .ok (.invokevirtual 181, 3) := by decide +kernel
theorem dX9_solve_57 : decode cX9_solve 57 = .ok (.ireturn, 1) := by decide +kernel
theorem dX9_solve_58 : decode cX9_solve 58 = .ok (.aload_n 0, 1) := by decide +kernel
theorem dX9_solve_59 : decode cX9_solve 59 = .ok (.getfield 61, 3) := by decide +kernel
theorem dX9_solve_62 : decode cX9_solve 62 = .ok (.getfield 184, 3) := by decide +kernel
theorem dX9_solve_65 : decode cX9_solve 65 = .ok (.ireturn, 1) := by decide +kernel
theorem dX9_answers_0 : decode cX9_answers 0 = .ok (.aload_n 0, 1) := by decide +kernel
theorem dX9_answers_1 : decode cX9_answers 1 = .ok (.getfield 61, 3) := by decide +kernel
theorem dX9_answers_4 : decode cX9_answers 4 = .ok (.getfield 187, 3) := by decide +kernel
theorem dX9_answers_7 : decode cX9_answers 7 = .ok (.ifCond .ne 6, 3) := by decide +kernel
theorem dX9_answers_10 : decode cX9_answers 10 = .ok (.bipush (-5), 2) := by decide +kernel
theorem dX9_answers_12 : decode cX9_answers 12 = .ok (.ireturn, 1) := by decide +kernel
theorem dX9_answers_13 : decode cX9_answers 13 = .ok (.aload_n 0, 1) := by decide +kernel
theorem dX9_answers_14 : decode cX9_answers 14 = .ok (.getfield 61, 3) := by decide +kernel
theorem dX9_answers_17 : decode cX9_answers 17 = .ok (.getfield 190, 3) := by decide +kernel
theorem dX9_answers_20 : decode cX9_answers 20 = .ok (.ifCond .ne 5, 3) := by decide +kernel
theorem dX9_answers_23 : decode cX9_answers 23 = .ok (.iconst 0, 1) := by decide +kernel
theorem dX9_answers_24 : decode cX9_answers 24 = .ok (.ireturn, 1) := by decide +kernel
theorem dX9_answers_25 : decode cX9_answers 25 = .ok (.aload_n 0, 1) := by decide +kernel
theorem dX9_answers_26 : decode cX9_answers 26 = .ok (.getfield 61, 3) := by decide +kernel
theorem dX9_answers_29 : decode cX9_answers 29 = .ok (.getfield 184, 3) := by decide +kernel
theorem dX9_answers_32 : decode cX9_answers 32 = .ok (.aload_n 0, 1) := by decide +kernel
theorem dX9_answers_33 : decode cX9_answers 33 = .ok (.getfield 21, 3) := by decide +kernel
theorem dX9_answers_36 : decode cX9_answers 36 = .ok (.if_icmp .ne 7, 3) := by decide +kernel
