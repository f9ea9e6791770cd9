theorem dX10_setFraction_27 : decode cX10_setFraction 27 = .ok (.ifCond .ge 7, 3) := by decide +kernel
theorem dX10_setFraction_30 : decode cX10_setFraction 30 = .ok (.iconst 1, 1) := by decide +kernel
theorem dX10_setFraction_31 : decode cX10_setFraction 31 = .ok (.goto 4, 3) := by decide +kernel
theorem dX10_setFraction_34 : decode cX10_setFraction 34 = .ok (.iconst 0, 1) := by decide +kernel
theorem dX10_setFraction_35 : decode cX10_setFraction 35 = .ok (.lload 4, 2) := by decide +kernel
theorem dX10_setFraction_37 : decode cX10_setFraction 37 = .ok (.lconst 0, 1) := by decide +kernel
theorem dX10_setFraction_38 : decode cX10_setFraction 38 = .ok (.lcmp, 1) := by decide +kernel
theorem dX10_setFraction_39 : decode cX10_setFraction 39 = .ok (.ifCond .ge 7, 3) := by decide +kernel
theorem dX10_setFraction_42 : decode cX10_setFraction 42 = .ok (.iconst 1, 1) := by decide +kernel
theorem dX10_setFraction_43 : decode cX10_setFraction 43 = .ok (.goto 4, 3) := by decide +kernel
theorem dX10_setFraction_46 : decode cX10_setFraction 46 = .ok (.iconst 0, 1) := by decide +kernel
theorem dX10_setFraction_47 : decode cX10_setFraction 47 = .ok (.if_icmp .eq 7, 3) := by decide +kernel
theorem dX10_setFraction_50 : decode cX10_setFraction 50 = .ok (.iconst 1, 1) := by decide +kernel
theorem dX10_setFraction_51 : decode cX10_setFraction 51 = .ok (.goto 4, 3) := by decide +kernel
theorem dX10_setFraction_54 : decode cX10_setFraction 54 = .ok (.iconst 0, 1) := by decide +kernel
theorem dX10_setFraction_55 : decode cX10_setFraction 55 = .ok (.bastore, 1) := by decide +kernel
theorem dX10_setFraction_56 : decode cX10_setFraction 56 = .ok (.aload_n 0, 1) := by decide +kernel
theorem dX10_setFraction_57 : decode cX10_setFraction 57 = .ok (.iload_n 1, 1) := by decide +kernel
theorem dX10_setFraction_58 : decode cX10_setFraction 58 = .ok (.invokevirtual 109, 3) := by decide +kernel
theorem dX10_setFraction_61 : decode cX10_setFraction 61 = .ok (.istore 6, 2) := by decide +kernel
theorem dX10_setFraction_63 : decode cX10_setFraction 63 = .ok (.return_, 1) := by decide +kernel
theorem dX10_isIn_0 : decode cX10_isIn 0 = .ok (.iload_n 0, 1) := by decide +kernel
theorem dX10_isIn_1 : decode cX10_isIn 1 = .ok (.iload_n 1, 1) := by decide +kernel
theorem dX10_isIn_2 : decode cX10_isIn 2 = .ok (.if_icmp .lt 12, 3) := by decide +kernel
theorem dX10_isIn_5 : decode cX10_isIn 5 = .ok (.iload_n 0, 1) := by decide +kernel
theorem dX10_isIn_6 : decode cX10_isIn 6 = .ok (.iload_n 2, 1) := by decide +kernel
theorem dX10_isIn_7 : decode cX10_isIn 7 = .ok (.if_icmp .gt 7, 3) := by decide +kernel
theorem dX10_isIn_10 : decode cX10_isIn 10 = .ok (.iconst 1, 1) := by decide +kernel
theorem dX10_isIn_11 : decode cX10_isIn 11 = .ok (.goto 4, 3) := by decide +kernel
theorem dX10_isIn_14 : decode cX10_isIn 14 = .ok (.iconst 0, 1) := by decide +kernel
theorem dX10_isIn_15 : decode cX10_isIn 15 = .ok (.ireturn, 1) := by decide +kernel
theorem dX10_isNumber_0 : decode cX10_isNumber 0 = .ok (.iload_n 1, 1) := by decide +kernel
theorem dX10_isNumber_1 : decode cX10_isNumber 1 = .ok (.iconst 0, 1) := by decide +kernel
theorem dX10_isNumber_2 : decode cX10_isNumber 2 = .ok (.aload_n 0, 1) := by decide +kernel
theorem dX10_isNumber_3 : decode cX10_isNumber 3 = .ok (.getfield 116, 3) := by decide +kernel
theorem dX10_isNumber_6 : decode cX10_isNumber 6 = .ok (.iconst 1, 1) := by decide +kernel
theorem dX10_isNumber_7 : decode cX10_isNumber 7 = .ok (.isub, 1) := by decide +kernel
theorem dX10_isNumber_8 : decode cX10_isNumber 8 = .ok (.invokestatic 119, 3) := by decide +kernel
theorem dX10_isNumber_11 : decode cX10_isNumber 11 = .ok (.ireturn, 1) := by decide +kernel
theorem dX10_grew_0 : decode cX10_grew 0 = .ok (.aload_n 0, 1) := by decide +kernel
theorem dX10_grew_1 : decode cX10_grew 1 = .ok (.dup, 1) := by decide +kernel
theorem dX10_grew_2 : decode cX10_grew 2 = .ok (.getfield 123, 3) := by decide +kernel
theorem dX10_grew_5 : decode cX10_grew 5 = .ok (.iconst 1, 1) := by decide +kernel
theorem dX10_grew_6 : decode cX10_grew 6 = .ok (.iadd, 1) := by decide +kernel
theorem dX10_grew_7 : decode cX10_grew 7 = .ok (.putfield 123, 3) := by decide +kernel
theorem dX10_grew_10 : decode cX10_grew 10 = .ok (.bipush (-3), 2) := by decide +kernel
theorem dX10_grew_12 : decode cX10_grew 12 = .ok (.ireturn, 1) := by decide +kernel
theorem dX10_kept_0 : decode cX10_kept 0 = .ok (.aload_n 0, 1) := by decide +kernel
theorem dX10_kept_1 : decode cX10_kept 1 = .ok (.dup, 1) := by decide +kernel
theorem dX10_kept_2 : decode cX10_kept 2 = .ok (.getfield 116, 3) := by decide +kernel
theorem dX10_kept_5 : decode cX10_kept 5 = .ok (.iconst 1, 1) := by decide +kernel
theorem dX10_kept_6 : decode cX10_kept 6 = .ok (.iadd, 1) := by decide +kernel
theorem dX10_kept_7 : decode cX10_kept 7 = .ok (.putfield 116, 3) := by decide +kernel
theorem dX10_kept_10 : decode cX10_kept 10 = .ok (.aload_n 0, 1) := by decide +kernel
theorem dX10_kept_11 : decode cX10_kept 11 = .ok (.getfield 116, 3) := by decide +kernel
theorem dX10_kept_14 : decode cX10_kept 14 = .ok (.iconst 1, 1) := by decide +kernel
theorem dX10_kept_15 : decode cX10_kept 15 = .ok (.isub, 1) := by decide +kernel
theorem dX10_kept_16 : decode cX10_kept 16 = .ok (.ireturn, 1) := by decide +kernel
theorem dX10_asNumber_0 : decode cX10_asNumber 0 = .ok (.aload_n 0, 1) := by decide +kernel
theorem dX10_asNumber_1 : decode cX10_asNumber 1 = .ok (.iload_n 1, 1) := by decide +kernel
theorem dX10_asNumber_2 : decode cX10_asNumber 2 = .ok (.aload_n 0, 1) := by decide +kernel
theorem dX10_asNumber_3 : decode cX10_asNumber 3 = .ok (.getfield 116, 3) := by decide +kernel
theorem dX10_asNumber_6 : decode cX10_asNumber 6 = .ok (.invokevirtual 126, 3) := by decide +kernel
theorem dX10_asNumber_9 : decode cX10_asNumber 9 = .ok (.aload_n 0, 1) := by decide +kernel
theorem dX10_asNumber_10 : decode cX10_asNumber 10 = .ok (.invokevirtual 129, 3) := by decide +kernel
theorem dX10_asNumber_13 : decode cX10_asNumber 13 = .ok (.ireturn, 1) := by decide +kernel
theorem dX10_value_0 : decode cX10_value 0 = .ok (.aload_n 0, 1) := by decide +kernel
theorem dX10_value_1 : decode cX10_value 1 = .ok (.iconst 0, 1) := by decide +kernel
theorem dX10_value_2 : decode cX10_value 2 = .ok (.putfield 52, 3) := by decide +kernel
theorem dX10_value_5 : decode cX10_value 5 = .ok (.lload_n 3, 1) := by decide +kernel
theorem dX10_value_6 : decode cX10_value 6 = .ok (.lconst 0, 1) := by decide +kernel
theorem dX10_value_7 : decode cX10_value 7 = .ok (.lcmp, 1) := by decide +kernel
theorem dX10_value_8 : decode cX10_value 8 = .ok (.ifCond .ne 6, 3) := by decide +kernel
theorem dX10_value_11 : decode cX10_value 11 = .ok (.bipush (-2), 2) := by decide +kernel
theorem dX10_value_13 : decode cX10_value 13 = .ok (.ireturn, 1) := by decide +kernel
theorem dX10_value_14 : decode cX10_value 14 = .ok (.aload_n 0, 1) := by decide +kernel
theorem dX10_value_15 : decode cX10_value 15 = .ok (.getfield 116, 3) := by decide +kernel
theorem dX10_value_18 : decode cX10_value 18 = .ok (.bipush 40, 2) := by decide +kernel
theorem dX10_value_20 : decode cX10_value 20 = .ok (.if_icmp .ne 6, 3) := by decide +kernel
theorem dX10_value_23 : decode cX10_value 23 = .ok (.bipush (-4), 2) := by decide +kernel
theorem dX10_value_25 : decode cX10_value 25 = .ok (.ireturn, 1) := by decide +kernel
theorem dX10_value_26 : decode cX10_value 26 = .ok (.aload_n 0, 1) := by decide +kernel
theorem dX10_value_27 : decode cX10_value 27 = .ok (.aload_n 0, 1) := by decide +kernel
theorem dX10_value_28 : decode cX10_value 28 = .ok (.getfield 116, 3) := by decide +kernel
theorem dX10_value_31 : decode cX10_value 31 = .ok (.lload_n 1, 1) := by decide +kernel
theorem dX10_value_32 : decode cX10_value 32 = .ok (.lload_n 3, 1) := by decide +kernel
theorem dX10_value_33 : decode cX10_value 33 = .ok (.invokevirtual 133, 3) := by decide +kernel
theorem dX10_value_36 : decode cX10_value 36 = .ok (.aload_n 0, 1) := by decide +kernel
theorem dX10_value_37 : decode cX10_value 37 = .ok (.invokevirtual 129, 3) := by decide +kernel
theorem dX10_value_40 : decode cX10_value 40 = .ok (.ireturn, 1) := by decide +kernel
theorem dX10_act_0 : decode cX10_act 0 = .ok (.aload_n 0, 1) := by decide +kernel
theorem dX10_act_1 : decode cX10_act 1 = .ok (.iconst 0, 1) := by decide +kernel
theorem dX10_act_2 : decode cX10_act 2 = .ok (.putfield 52, 3) := by decide +kernel
theorem dX10_act_5 : decode cX10_act 5 = .ok (.iload_n 1, 1) := by decide +kernel
theorem dX10_act_6 : decode cX10_act 6 = .ok (.iconst 0, 1) := by decide +kernel
theorem dX10_act_7 : decode cX10_act 7 = .ok (.iconst 3, 1) := by decide +kernel
theorem dX10_act_8 : decode cX10_act 8 = .ok (.invokestatic 119, 3) := by decide +kernel
theorem dX10_act_11 : decode cX10_act 11 = .ok (.ifCond .eq 19, 3) := by decide +kernel
theorem dX10_act_14 : decode cX10_act 14 = .ok (.aload_n 0, 1) := by decide +kernel
theorem dX10_act_15 : decode cX10_act 15 = .ok (.iload_n 2, 1) := by decide +kernel
theorem dX10_act_16 : decode cX10_act 16 = .ok (.invokevirtual 137, 3) := by decide +kernel
theorem dX10_act_19 : decode cX10_act 19 = .ok (.ifCond .eq 11, 3) := by decide +kernel
theorem dX10_act_22 : decode cX10_act 22 = .ok (.aload_n 0, 1) := by decide +kernel
theorem dX10_act_23 : decode cX10_act 23 = .ok (.iload_n 3, 1) := by decide +kernel
theorem dX10_act_24 : decode cX10_act 24 = .ok (.invokevirtual 137, 3) := by decide +kernel
theorem dX10_act_27 : decode cX10_act 27 = .ok (.ifCond .ne 5, 3) := by decide +kernel
theorem dX10_act_30 : decode cX10_act 30 = .ok (.iconst (-1), 1) := by decide +kernel
theorem dX10_act_31 : decode cX10_act 31 = .ok (.ireturn, 1) := by decide +kernel
theorem dX10_act_32 : decode cX10_act 32 = .ok (.aload_n 0, 1) := by decide +kernel
theorem dX10_act_33 : decode cX10_act 33 = .ok (.getfield 116, 3) := by decide +kernel
theorem dX10_act_36 : decode cX10_act 36 = .ok (.bipush 40, 2) := by decide +kernel
theorem dX10_act_38 : decode cX10_act 38 = .ok (.if_icmp .ne 6, 3) := by decide +kernel
theorem dX10_act_41 : decode cX10_act 41 = .ok (.bipush (-4), 2) := by decide +kernel
theorem dX10_act_43 : decode cX10_act 43 = .ok (.ireturn, 1) := by decide +kernel
theorem dX10_act_44 : decode cX10_act 44 = .ok (.iload_n 1, 1) := by decide +kernel
theorem dX10_act_45 : decode cX10_act 45 = .ok (.iconst 3, 1) := by decide +kernel
theorem dX10_act_46 : decode cX10_act 46 = .ok (.if_icmp .ne 14, 3) := by decide +kernel
theorem dX10_act_49 : decode cX10_act 49 = .ok (.aload_n 0, 1) := by decide +kernel
theorem dX10_act_50 : decode cX10_act 50 = .ok (.iload_n 3, 1) := by decide +kernel
theorem dX10_act_51 : decode cX10_act 51 = .ok (.invokevirtual 92, 3) := by decide +kernel
theorem dX10_act_54 : decode cX10_act 54 = .ok (.ifCond .eq 6, 3) := by decide +kernel
theorem dX10_act_57 : decode cX10_act 57 = .ok (.bipush (-2), 2) := by decide +kernel
theorem dX10_act_59 : decode cX10_act 59 = .ok (.ireturn, 1) := by decide +kernel
theorem dX10_act_60 : decode cX10_act 60 = .ok (.iload_n 1, 1) := by decide +kernel
theorem dX10_act_61 : decode cX10_act 61 = .ok (.iconst 2, 1) := by decide +kernel
theorem dX10_act_62 : decode cX10_act 62 = .ok (.if_icmp .ge 24, 3) := by decide +kernel
theorem dX10_act_65 : decode cX10_act 65 = .ok (.aload_n 0, 1) := by decide +kernel
theorem dX10_act_66 : decode cX10_act 66 = .ok (.iload_n 2, 1) := by decide +kernel
theorem dX10_act_67 : decode cX10_act 67 = .ok (.iload_n 3, 1) := by decide +kernel
theorem dX10_act_68 : decode cX10_act 68 = .ok (.bipush 105, 2) := by decide +kernel
theorem dX10_act_70 : decode cX10_act 70 = .ok (.iload_n 1, 1) := by decide +kernel
theorem dX10_act_71 : decode cX10_act 71 = .ok (.iconst 1, 1) := by decide +kernel
theorem dX10_act_72 : decode cX10_act 72 = .ok (.if_icmp .ne 7, 3) := by decide +kernel
theorem dX10_act_75 : decode cX10_act 75 = .ok (.iconst 1, 1) := by decide +kernel
theorem dX10_act_76 : decode cX10_act 76 = .ok (.goto 4, 3) := by decide +kernel
theorem dX10_act_79 : decode cX10_act 79 = .ok (.iconst 0, 1) := by decide +kernel
theorem dX10_act_80 : decode cX10_act 80 = .ok (.invokevirtual 140, 3) := by decide +kernel
theorem dX10_act_83 : decode cX10_act 83 = .ok (.goto 27, 3) := by decide +kernel
theorem dX10_act_86 : decode cX10_act 86 = .ok (.iload_n 1, 1) := by decide +kernel
theorem dX10_act_87 : decode cX10_act 87 = .ok (.iconst 2, 1) := by decide +kernel
theorem dX10_act_88 : decode cX10_act 88 = .ok (.if_icmp .ne 14, 3) := by decide +kernel
theorem dX10_act_91 : decode cX10_act 91 = .ok (.aload_n 0, 1) := by decide +kernel
theorem dX10_act_92 : decode cX10_act 92 = .ok (.iload_n 2, 1) := by decide +kernel
theorem dX10_act_93 : decode cX10_act 93 = .ok (.iload_n 3, 1) := by decide +kernel
theorem dX10_act_94 : decode cX10_act 94 = .ok (.bipush 105, 2) := by decide +kernel
theorem dX10_act_96 : decode cX10_act 96 = .ok (.invokevirtual 144, 3) := by decide +kernel
theorem dX10_act_99 : decode cX10_act 99 = .ok (.goto 11, 3) := by decide +kernel
theorem dX10_act_102 : decode cX10_act 102 = .ok (.aload_n 0, 1) := by decide +kernel
theorem dX10_act_103 : decode cX10_act 103 = .ok (.iload_n 2, 1) := by decide +kernel
theorem dX10_act_104 : decode cX10_act 104 = .ok (.iload_n 3, 1) := by decide +kernel
theorem dX10_act_105 : decode cX10_act 105 = .ok (.bipush 105, 2) := by decide +kernel
theorem dX10_act_107 : decode cX10_act 107 = .ok (.invokevirtual 147, 3) := by decide +kernel
theorem dX10_act_110 : decode cX10_act 110 = .ok (.istore 4, 2) := by decide +kernel
theorem dX10_act_112 : decode cX10_act 112 = .ok (.iload 4, 2) := by decide +kernel
theorem dX10_act_114 : decode cX10_act 114 = .ok (.ifCond .eq 12, 3) := by decide +kernel
theorem dX10_act_117 : decode cX10_act 117 = .ok (.aload_n 0, 1) := by decide +kernel
theorem dX10_act_118 : decode cX10_act 118 = .ok (.bipush 105, 2) := by decide +kernel
theorem dX10_act_120 : decode cX10_act 120 = .ok (.invokevirtual 150, 3) := by decide +kernel
theorem dX10_act_123 : decode cX10_act 123 = .ok (.goto 7, 3) := by decide +kernel
theorem dX10_act_126 : decode cX10_act 126 = .ok (.aload_n 0, 1) := by decide +kernel
theorem dX10_act_127 : decode cX10_act 127 = .ok (.invokevirtual 153, 3) := by decide +kernel
theorem dX10_act_130 : decode cX10_act 130 = .ok (.ireturn, 1) := by decide +kernel
theorem dX10_quotient_0 : decode cX10_quotient 0 = .ok (.aload_n 0, 1) := by decide +kernel
theorem dX10_quotient_1 : decode cX10_quotient 1 = .ok (.iconst 0, 1) := by decide +kernel
theorem dX10_quotient_2 : decode cX10_quotient 2 = .ok (.putfield 52, 3) := by decide +kernel
theorem dX10_quotient_5 : decode cX10_quotient 5 = .ok (.aload_n 0, 1) := by decide +kernel
theorem dX10_quotient_6 : decode cX10_quotient 6 = .ok (.iload_n 1, 1) := by decide +kernel
theorem dX10_quotient_7 : decode cX10_quotient 7 = .ok (.invokevirtual 137, 3) := by decide +kernel
theorem dX10_quotient_10 : decode cX10_quotient 10 = .ok (.ifCond .eq 11, 3) := by decide +kernel
theorem dX10_quotient_13 : decode cX10_quotient 13 = .ok (.aload_n 0, 1) := by decide +kernel
theorem dX10_quotient_14 : decode cX10_quotient 14 = .ok (.iload_n 2, 1) := by decide +kernel
theorem dX10_quotient_15 : decode cX10_quotient 15 = .ok (.invokevirtual 137, 3) := by decide +kernel
theorem dX10_quotient_18 : decode cX10_quotient 18 = .ok (.ifCond .ne 5, 3) := by decide +kernel
theorem dX10_quotient_21 : decode cX10_quotient 21 = .ok (.iconst (-1), 1) := by decide +kernel
theorem dX10_quotient_22 : decode cX10_quotient 22 = .ok (.ireturn, 1) := by decide +kernel
theorem dX10_quotient_23 : decode cX10_quotient 23 = .ok (.aload_n 0, 1) := by decide +kernel
theorem dX10_quotient_24 : decode cX10_quotient 24 = .ok (.getfield 116, 3) := by decide +kernel
theorem dX10_quotient_27 : decode cX10_quotient 27 = .ok (.bipush 40, 2) := by decide +kernel
theorem dX10_quotient_29 : decode cX10_quotient 29 = .ok (.if_icmp .ne 6, 3) := by decide +kernel
theorem dX10_quotient_32 : decode cX10_quotient 32 = .ok (.bipush (-4), 2) := by decide +kernel
theorem dX10_quotient_34 : decode cX10_quotient 34 = .ok (.ireturn, 1) := by decide +kernel
theorem dX10_quotient_35 : decode cX10_quotient 35 = .ok (.aload_n 0, 1) := by decide +kernel
theorem dX10_quotient_36 : decode cX10_quotient 36 = .ok (.iload_n 2, 1) := by decide +kernel
theorem dX10_quotient_37 : decode cX10_quotient 37 = .ok (.invokevirtual 92, 3) := by decide +kernel
theorem dX10_quotient_40 : decode cX10_quotient 40 = .ok (.ifCond .eq 10, 3) := by decide +kernel
theorem dX10_quotient_43 : decode cX10_quotient 43 = .ok (.aload_n 0, 1) := by decide +kernel
theorem dX10_quotient_44 : decode cX10_quotient 44 = .ok (.iconst 1, 1) := by decide +kernel
theorem dX10_quotient_45 : decode cX10_quotient 45 = .ok (.putfield 52, 3) := by decide +kernel
theorem dX10_quotient_48 : decode cX10_quotient 48 = .ok (.iconst 0, 1) := by decide +kernel
theorem dX10_quotient_49 : decode cX10_quotient 49 = .ok (.ireturn, 1) := by decide +kernel
theorem dX10_quotient_50 : decode cX10_quotient 50 = .ok (.aload_n 0, 1) := by decide +kernel
theorem dX10_quotient_51 : decode cX10_quotient 51 = .ok (.iload_n 1, 1) := by decide +kernel
theorem dX10_quotient_52 : decode cX10_quotient 52 = .ok (.iload_n 2, 1) := by decide +kernel
theorem dX10_quotient_53 : decode cX10_quotient 53 = .ok (.bipush 105, 2) := by decide +kernel
theorem dX10_quotient_55 : decode cX10_quotient 55 = .ok (.invokevirtual 147, 3) := by decide +kernel
theorem dX10_quotient_58 : decode cX10_quotient 58 = .ok (.ifCond .eq 12, 3) := by decide +kernel
theorem dX10_quotient_61 : decode cX10_quotient 61 = .ok (.aload_n 0, 1) := by decide +kernel
theorem dX10_quotient_62 : decode cX10_quotient 62 = .ok (.bipush 105, 2) := by decide +kernel
theorem dX10_quotient_64 : decode cX10_quotient 64 = .ok (.invokevirtual 150, 3) := by decide +kernel
theorem dX10_quotient_67 : decode cX10_quotient 67 = .ok (.goto 7, 3) := by decide +kernel
theorem dX10_quotient_70 : decode cX10_quotient 70 = .ok (.aload_n 0, 1) := by decide +kernel
theorem dX10_quotient_71 : decode cX10_quotient 71 = .ok (.invokevirtual 153, 3) := by decide +kernel
theorem dX10_quotient_74 : decode cX10_quotient 74 = .ok (.ireturn, 1) := by decide +kernel
theorem dX10_drop_0 : decode cX10_drop 0 = .ok (.aload_n 0, 1) := by decide +kernel
theorem dX10_drop_1 : decode cX10_drop 1 = .ok (.iconst 0, 1) := by decide +kernel
theorem dX10_drop_2 : decode cX10_drop 2 = .ok (.putfield 52, 3) := by decide +kernel
theorem dX10_drop_5 : decode cX10_drop 5 = .ok (.aload_n 0, 1) := by decide +kernel
theorem dX10_drop_6 : decode cX10_drop 6 = .ok (.getfield 116, 3) := by decide +kernel
theorem dX10_drop_9 : decode cX10_drop 9 = .ok (.ifCond .ne 6, 3) := by decide +kernel
theorem dX10_drop_12 : decode cX10_drop 12 = .ok (.bipush (-5), 2) := by decide +kernel
theorem dX10_drop_14 : decode cX10_drop 14 = .ok (.ireturn, 1) := by decide +kernel
theorem dX10_drop_15 : decode cX10_drop 15 = .ok (.aload_n 0, 1) := by decide +kernel
theorem dX10_drop_16 : decode cX10_drop 16 = .ok (.dup, 1) := by decide +kernel
theorem dX10_drop_17 : decode cX10_drop 17 = .ok (.getfield 116, 3) := by decide +kernel
theorem dX10_drop_20 : decode cX10_drop 20 = .ok (.iconst 1, 1) := by decide +kernel
theorem dX10_drop_21 : decode cX10_drop 21 = .ok (.isub, 1) := by decide +kernel
theorem dX10_drop_22 : decode cX10_drop 22 = .ok (.putfield 116, 3) := by decide +kernel
theorem dX10_drop_25 : decode cX10_drop 25 = .ok (.aload_n 0, 1) := by decide +kernel
theorem dX10_drop_26 : decode cX10_drop 26 = .ok (.getfield 116, 3) := by decide +kernel
theorem dX10_drop_29 : decode cX10_drop 29 = .ok (.ireturn, 1) := by decide +kernel
theorem dX10_compare_0 : decode cX10_compare 0 = .ok (.aload_n 0, 1) := by decide +kernel
theorem dX10_compare_1 : decode cX10_compare 1 = .ok (.iconst 0, 1) := by decide +kernel
theorem dX10_compare_2 : decode cX10_compare 2 = .ok (.putfield 52, 3) := by decide +kernel
theorem dX10_compare_5 : decode cX10_compare 5 = .ok (.aload_n 0, 1) := by decide +kernel
theorem dX10_compare_6 : decode cX10_compare 6 = .ok (.iload_n 1, 1) := by decide +kernel
theorem dX10_compare_7 : decode cX10_compare 7 = .ok (.invokevirtual 137, 3) := by decide +kernel
theorem dX10_compare_10 : decode cX10_compare 10 = .ok (.ifCond .eq 11, 3) := by decide +kernel
theorem dX10_compare_13 : decode cX10_compare 13 = .ok (.aload_n 0, 1) := by decide +kernel
theorem dX10_compare_14 : decode cX10_compare 14 = .ok (.iload_n 2, 1) := by decide +kernel
theorem dX10_compare_15 : decode cX10_compare 15 = .ok (.invokevirtual 137, 3) := by decide +kernel
theorem dX10_compare_18 : decode cX10_compare 18 = .ok (.ifCond .ne 6, 3) := by decide +kernel
theorem dX10_compare_21 : decode cX10_compare 21 = .ok (.bipush (-2), 2) := by decide +kernel
theorem dX10_compare_23 : decode cX10_compare 23 = .ok (.ireturn, 1) := by decide +kernel
theorem dX10_compare_24 : decode cX10_compare 24 = .ok (.aload_n 0, 1) := by decide +kernel
theorem dX10_compare_25 : decode cX10_compare 25 = .ok (.getfield 13, 3) := by decide +kernel
theorem dX10_compare_28 : decode cX10_compare 28 = .ok (.iload_n 1, 1) := by decide +kernel
theorem dX10_compare_29 : decode cX10_compare 29 = .ok (.baload, 1) := by decide +kernel
theorem dX10_compare_30 : decode cX10_compare 30 = .ok (.aload_n 0, 1) := by decide +kernel
theorem dX10_compare_31 : decode cX10_compare 31 = .ok (.getfield 13, 3) := by decide +kernel
theorem dX10_compare_34 : decode cX10_compare 34 = .ok (.iload_n 2, 1) := by decide +kernel
theorem dX10_compare_35 : decode cX10_compare 35 = .ok (.baload, 1) := by decide +kernel
theorem dX10_compare_36 : decode cX10_compare 36 = .ok (.if_icmp .eq 18, 3) := by decide +kernel
theorem dX10_compare_39 : decode cX10_compare 39 = .ok (.aload_n 0, 1) := by decide +kernel
theorem dX10_compare_40 : decode cX10_compare 40 = .ok (.getfield 13, 3) := by decide +kernel
theorem dX10_compare_43 : decode cX10_compare 43 = .ok (.iload_n 1, 1) := by decide +kernel
theorem dX10_compare_44 : decode cX10_compare 44 = .ok (.baload, 1) := by decide +kernel
theorem dX10_compare_45 : decode cX10_compare 45 = .ok (.ifCond .eq 7, 3) := by decide +kernel
theorem dX10_compare_48 : decode cX10_compare 48 = .ok (.iconst (-1), 1) := by decide +kernel
theorem dX10_compare_49 : decode cX10_compare 49 = .ok (.goto 4, 3) := by decide +kernel
theorem dX10_compare_52 : decode cX10_compare 52 = .ok (.iconst 1, 1) := by decide +kernel
theorem dX10_compare_53 : decode cX10_compare 53 = .ok (.ireturn, 1) := by decide +kernel
theorem dX10_compare_54 : decode cX10_compare 54 = .ok (.aload_n 0, 1) := by decide +kernel
theorem dX10_compare_55 : decode cX10_compare 55 = .ok (.iconst 2, 1) := by decide +kernel
theorem dX10_compare_56 : decode cX10_compare 56 = .ok (.iload_n 1, 1) := by decide +kernel
theorem dX10_compare_57 : decode cX10_compare 57 = .ok (.imul, 1) := by decide +kernel
theorem dX10_compare_58 : decode cX10_compare 58 = .ok (.iconst 2, 1) := by decide +kernel
theorem dX10_compare_59 : decode cX10_compare 59 = .ok (.iload_n 2, 1) := by decide +kernel
theorem dX10_compare_60 : decode cX10_compare 60 = .ok (.imul, 1) := by decide +kernel
theorem dX10_compare_61 : decode cX10_compare 61 = .ok (.iconst 1, 1) := by decide +kernel
theorem dX10_compare_62 : decode cX10_compare 62 = .ok (.iadd, 1) := by decide +kernel
theorem dX10_compare_63 : decode cX10_compare 63 = .ok (.sipush 224, 3) := by decide +kernel
theorem dX10_compare_66 : decode cX10_compare 66 = .ok (.invokevirtual 102, 3) := by decide +kernel
theorem dX10_compare_69 : decode cX10_compare 69 = .ok (.aload_n 0, 1) := by decide +kernel
theorem dX10_compare_70 : decode cX10_compare 70 = .ok (.iconst 2, 1) := by decide +kernel
theorem dX10_compare_71 : decode cX10_compare 71 = .ok (.iload_n 2, 1) := by decide +kernel
theorem dX10_compare_72 : decode cX10_compare 72 = .ok (.imul, 1) := by decide +kernel
theorem dX10_compare_73 : decode cX10_compare 73 = .ok (.iconst 2, 1) := by decide +kernel
theorem dX10_compare_74 : decode cX10_compare 74 = .ok (.iload_n 1, 1) := by decide +kernel
theorem dX10_compare_75 : decode cX10_compare 75 = .ok (.imul, 1) := by decide +kernel
theorem dX10_compare_76 : decode cX10_compare 76 = .ok (.iconst 1, 1) := by decide +kernel
theorem dX10_compare_77 : decode cX10_compare 77 = .ok (.iadd, 1) := by decide +kernel
theorem dX10_compare_78 : decode cX10_compare 78 = .ok (.sipush 225, 3) := by decide +kernel
theorem dX10_compare_81 : decode cX10_compare 81 = .ok (.invokevirtual 102, 3) := by decide +kernel
theorem dX10_compare_84 : decode cX10_compare 84 = .ok (.aload_n 0, 1) := by decide +kernel
theorem dX10_compare_85 : decode cX10_compare 85 = .ok (.getfield 13, 3) := by decide +kernel
theorem dX10_compare_88 : decode cX10_compare 88 = .ok (.iload_n 1, 1) := by decide +kernel
theorem dX10_compare_89 : decode cX10_compare 89 = .ok (.baload, 1) := by decide +kernel
theorem dX10_compare_90 : decode cX10_compare 90 = .ok (.ifCond .eq 17, 3) := by decide +kernel
theorem dX10_compare_93 : decode cX10_compare 93 = .ok (.aload_n 0, 1) := by decide +kernel
theorem dX10_compare_94 : decode cX10_compare 94 = .ok (.sipush 224, 3) := by decide +kernel
theorem dX10_compare_97 : decode cX10_compare 97 = .ok (.sipush 225, 3) := by decide +kernel
theorem dX10_compare_100 : decode cX10_compare 100 = .ok (.invokevirtual 76, 3) := by decide +kernel
theorem dX10_compare_103 : decode cX10_compare 103 = .ok (.ineg, 1) := by decide +kernel
theorem dX10_compare_104 : decode cX10_compare 104 = .ok (.goto 13, 3) := by decide +kernel
theorem dX10_compare_107 : decode cX10_compare 107 = .ok (.aload_n 0, 1) := by decide +kernel
theorem dX10_compare_108 : decode cX10_compare 108 = .ok (.sipush 224, 3) := by decide +kernel
theorem dX10_compare_111 : decode cX10_compare 111 = .ok (.sipush 225, 3) := by decide +kernel
theorem dX10_compare_114 : decode cX10_compare 114 = .ok (.invokevirtual 76, 3) := by decide +kernel
theorem dX10_compare_117 : decode cX10_compare 117 = .ok (.ireturn, 1) := by decide +kernel
theorem dX10_about_0 : decode cX10_about 0 = .ok (.aload_n 0, 1) := by decide +kernel
theorem dX10_about_1 : decode cX10_about 1 = .ok (.iconst 0, 1) := by decide +kernel
theorem dX10_about_2 : decode cX10_about 2 = .ok (.putfield 52, 3) := by decide +kernel
theorem dX10_about_5 : decode cX10_about 5 = .ok (.aload_n 0, 1) := by decide +kernel
theorem dX10_about_6 : decode cX10_about 6 = .ok (.iload_n 1, 1) := by decide +kernel
theorem dX10_about_7 : decode cX10_about 7 = .ok (.invokevirtual 137, 3) := by decide +kernel
theorem dX10_about_10 : decode cX10_about 10 = .ok (.ifCond .eq 12, 3) := by decide +kernel
theorem dX10_about_13 : decode cX10_about 13 = .ok (.iload_n 2, 1) := by decide +kernel
theorem dX10_about_14 : decode cX10_about 14 = .ok (.iconst 0, 1) := by decide +kernel
theorem dX10_about_15 : decode cX10_about 15 = .ok (.iconst 3, 1) := by decide +kernel
theorem dX10_about_16 : decode cX10_about 16 = .ok (.invokestatic 119, 3) := by decide +kernel
theorem dX10_about_19 : decode cX10_about 19 = .ok (.ifCond .ne 5, 3) := by decide +kernel
theorem dX10_about_22 : decode cX10_about 22 = .ok (.iconst (-1), 1) := by decide +kernel
theorem dX10_about_23 : decode cX10_about 23 = .ok (.ireturn, 1) := by decide +kernel
theorem dX10_about_24 : decode cX10_about 24 = .ok (.iload_n 2, 1) := by decide +kernel
theorem dX10_about_25 : decode cX10_about 25 = .ok (.ifCond .ne 20, 3) := by decide +kernel
theorem dX10_about_28 : decode cX10_about 28 = .ok (.aload_n 0, 1) := by decide +kernel
theorem dX10_about_29 : decode cX10_about 29 = .ok (.getfield 13, 3) := by decide +kernel
theorem dX10_about_32 : decode cX10_about 32 = .ok (.iload_n 1, 1) := by decide +kernel
theorem dX10_about_33 : decode cX10_about 33 = .ok (.baload, 1) := by decide +kernel
theorem dX10_about_34 : decode cX10_about 34 = .ok (.ifCond .eq 7, 3) := by decide +kernel
theorem dX10_about_37 : decode cX10_about 37 = .ok (.iconst 1, 1) := by decide +kernel
theorem dX10_about_38 : decode cX10_about 38 = .ok (.goto 37, 3) := by decide +kernel
theorem dX10_about_41 : decode cX10_about 41 = .ok (.iconst 0, 1) := by decide +kernel
theorem dX10_about_42 : decode cX10_about 42 = .ok (.goto 33, 3) := by decide +kernel
theorem dX10_about_45 : decode cX10_about 45 = .ok (.iload_n 2, 1) := by decide +kernel
theorem dX10_about_46 : decode cX10_about 46 = .ok (.iconst 3, 1) := by decide +kernel
theorem dX10_about_47 : decode cX10_about 47 = .ok (.if_icmp .ne 11, 3) := by decide +kernel
theorem dX10_about_50 : decode cX10_about 50 = .ok (.aload_n 0, 1) := by decide +kernel
theorem dX10_about_51 : decode cX10_about 51 = .ok (.iload_n 1, 1) := by decide +kernel
theorem dX10_about_52 : decode cX10_about 52 = .ok (.invokevirtual 156, 3) := by decide +kernel
theorem dX10_about_55 : decode cX10_about 55 = .ok (.goto 20, 3) := by decide +kernel
theorem dX10_about_58 : decode cX10_about 58 = .ok (.aload_n 0, 1) := by decide +kernel
theorem dX10_about_59 : decode cX10_about 59 = .ok (.iconst 2, 1) := by decide +kernel
theorem dX10_about_60 : decode cX10_about 60 = .ok (.iload_n 1, 1) := by decide +kernel
theorem dX10_about_61 : decode cX10_about 61 = .ok (.imul, 1) := by decide +kernel
theorem dX10_about_62 : decode cX10_about 62 = .ok (.iload_n 2, 1) := by decide +kernel
theorem dX10_about_63 : decode cX10_about 63 = .ok (.iadd, 1) := by decide +kernel
theorem dX10_about_64 : decode cX10_about 64 = .ok (.iconst 1, 1) := by decide +kernel
theorem dX10_about_65 : decode cX10_about 65 = .ok (.isub, 1) := by decide +kernel
theorem dX10_about_66 : decode cX10_about 66 = .ok (.invokevirtual 65, 3) := by decide +kernel
theorem dX10_about_69 : decode cX10_about 69 = .ok (.bipush 31, 2) := by decide +kernel
theorem dX10_about_71 : decode cX10_about 71 = .ok (.iadd, 1) := by decide +kernel
theorem dX10_about_72 : decode cX10_about 72 = .ok (.bipush 32, 2) := by decide +kernel
theorem dX10_about_74 : decode cX10_about 74 = .ok (.idiv, 1) := by decide +kernel
theorem dX10_about_75 : decode cX10_about 75 = .ok (.ireturn, 1) := by decide +kernel
theorem dX10_limb_0 : decode cX10_limb 0 = .ok (.aload_n 0, 1) := by decide +kernel
theorem dX10_limb_1 : decode cX10_limb 1 = .ok (.iconst 0, 1) := by decide +kernel
theorem dX10_limb_2 : decode cX10_limb 2 = .ok (.putfield 52, 3) := by decide +kernel
theorem dX10_limb_5 : decode cX10_limb 5 = .ok (.aload_n 0, 1) := by decide +kernel
theorem dX10_limb_6 : decode cX10_limb 6 = .ok (.iload_n 1, 1) := by decide +kernel
theorem dX10_limb_7 : decode cX10_limb 7 = .ok (.invokevirtual 137, 3) := by decide +kernel
theorem dX10_limb_10 : decode cX10_limb 10 = .ok (.ifCond .eq 37, 3) := by decide +kernel
theorem dX10_limb_13 : decode cX10_limb 13 = .ok (.iload_n 2, 1) := by decide +kernel
theorem dX10_limb_14 : decode cX10_limb 14 = .ok (.iconst 0, 1) := by decide +kernel
theorem dX10_limb_15 : decode cX10_limb 15 = .ok (.iconst 1, 1) := by decide +kernel
theorem dX10_limb_16 : decode cX10_limb 16 = .ok (.invokestatic 119, 3) := by decide +kernel
theorem dX10_limb_19 : decode cX10_limb 19 = .ok (.ifCond .eq 28, 3) := by decide +kernel
theorem dX10_limb_22 : decode cX10_limb 22 = .ok (.iload_n 3, 1) := by decide +kernel
theorem dX10_limb_23 : decode cX10_limb 23 = .ok (.iconst 0, 1) := by decide +kernel
theorem dX10_limb_24 : decode cX10_limb 24 = .ok (.aload_n 0, 1) := by decide +kernel
theorem dX10_limb_25 : decode cX10_limb 25 = .ok (.iconst 2, 1) := by decide +kernel
theorem dX10_limb_26 : decode cX10_limb 26 = .ok (.iload_n 1, 1) := by decide +kernel
theorem dX10_limb_27 : decode cX10_limb 27 = .ok (.imul, 1) := by decide +kernel
theorem dX10_limb_28 : decode cX10_limb 28 = .ok (.iload_n 2, 1) := by decide +kernel
theorem dX10_limb_29 : decode cX10_limb 29 = .ok (.iadd, 1) := by decide +kernel
theorem dX10_limb_30 : decode cX10_limb 30 = .ok (.invokevirtual 65, 3) := by decide +kernel
theorem dX10_limb_33 : decode cX10_limb 33 = .ok (.bipush 31, 2) := by decide +kernel
theorem dX10_limb_35 : decode cX10_limb 35 = .ok (.iadd, 1) := by decide +kernel
theorem dX10_limb_36 : decode cX10_limb 36 = .ok (.bipush 32, 2) := by decide +kernel
theorem dX10_limb_38 : decode cX10_limb 38 = .ok (.idiv, 1) := by decide +kernel
theorem dX10_limb_39 : decode cX10_limb 39 = .ok (.iconst 1, 1) := by decide +kernel
theorem dX10_limb_40 : decode cX10_limb 40 = .ok (.isub, 1) := by decide +kernel
theorem dX10_limb_41 : decode cX10_limb 41 = .ok (.invokestatic 119, 3) := by decide +kernel
theorem dX10_limb_44 : decode cX10_limb 44 = .ok (.ifCond .ne 10, 3) := by decide +kernel
theorem dX10_limb_47 : decode cX10_limb 47 = .ok (.aload_n 0, 1) := by decide +kernel
theorem dX10_limb_48 : decode cX10_limb 48 = .ok (.iconst 1, 1) := by decide +kernel
theorem dX10_limb_49 : decode cX10_limb 49 = .ok (.putfield 52, 3) := by decide +kernel
theorem dX10_limb_52 : decode cX10_limb 52 = .ok (.iconst 0, 1) := by decide +kernel
theorem dX10_limb_53 : decode cX10_limb 53 = .ok (.ireturn, 1) := by decide +kernel
theorem dX10_limb_54 : decode cX10_limb 54 = .ok (.iconst 0, 1) := by decide +kernel
theorem dX10_limb_55 : decode cX10_limb 55 = .ok (.istore 4, 2) := by decide +kernel
theorem dX10_limb_57 : decode cX10_limb 57 = .ok (.iconst 0, 1) := by decide +kernel
theorem dX10_limb_58 : decode cX10_limb 58 = .ok (.istore 5, 2) := by decide +kernel
theorem dX10_limb_60 : decode cX10_limb 60 = .ok (.iload 5, 2) := by decide +kernel
theorem dX10_limb_62 : decode cX10_limb 62 = .ok (.bipush 32, 2) := by decide +kernel
theorem dX10_limb_64 : decode cX10_limb 64 = .ok (.if_icmp .ge 33, 3) := by decide +kernel
theorem dX10_limb_67 : decode cX10_limb 67 = .ok (.iload 4, 2) := by decide +kernel
theorem dX10_limb_69 : decode cX10_limb 69 = .ok (.aload_n 0, 1) := by decide +kernel
theorem dX10_limb_70 : decode cX10_limb 70 = .ok (.iconst 2, 1) := by decide +kernel
theorem dX10_limb_71 : decode cX10_limb 71 = .ok (.iload_n 1, 1) := by decide +kernel
theorem dX10_limb_72 : decode cX10_limb 72 = .ok (.imul, 1) := by decide +kernel
theorem dX10_limb_73 : decode cX10_limb 73 = .ok (.iload_n 2, 1) := by decide +kernel
theorem dX10_limb_74 : decode cX10_limb 74 = .ok (.iadd, 1) := by decide +kernel
theorem dX10_limb_75 : decode cX10_limb 75 = .ok (.bipush 32, 2) := by decide +kernel
theorem dX10_limb_77 : decode cX10_limb 77 = .ok (.iload_n 3, 1) := by decide +kernel
theorem dX10_limb_78 : decode cX10_limb 78 = .ok (.imul, 1) := by decide +kernel
theorem dX10_limb_79 : decode cX10_limb 79 = .ok (.iload 5, 2) := by decide +kernel
theorem dX10_limb_81 : decode cX10_limb 81 = .ok (.iadd, 1) := by decide +kernel
theorem dX10_limb_82 : decode cX10_limb 82 = .ok (.invokevirtual 68, 3) := by decide +kernel
theorem dX10_limb_85 : decode cX10_limb 85 = .ok (.iload 5, 2) := by decide +kernel
theorem dX10_limb_87 : decode cX10_limb 87 = .ok (.ishl, 1) := by decide +kernel
theorem dX10_limb_88 : decode cX10_limb 88 = .ok (.ior, 1) := by decide +kernel
theorem dX10_limb_89 : decode cX10_limb 89 = .ok (.istore 4, 2) := by decide +kernel
theorem dX10_limb_91 : decode cX10_limb 91 = .ok (.iinc 5 1, 3) := by decide +kernel
theorem dX10_limb_94 : decode cX10_limb 94 = .ok (.goto (-34), 3) := by decide +kernel
theorem dX10_limb_97 : decode cX10_limb 97 = .ok (.iload 4, 2) := by decide +kernel
theorem dX10_limb_99 : decode cX10_limb 99 = .ok (.ireturn, 1) := by decide +kernel
theorem dX10_isEntry_0 : decode cX10_isEntry 0 = .ok (.iload_n 1, 1) := by decide +kernel
theorem dX10_isEntry_1 : decode cX10_isEntry 1 = .ok (.iconst 0, 1) := by decide +kernel
theorem dX10_isEntry_2 : decode cX10_isEntry 2 = .ok (.aload_n 0, 1) := by decide +kernel
theorem dX10_isEntry_3 : decode cX10_isEntry 3 = .ok (.getfield 44, 3) := by decide +kernel
theorem dX10_isEntry_6 : decode cX10_isEntry 6 = .ok (.iconst 1, 1) := by decide +kernel
theorem dX10_isEntry_7 : decode cX10_isEntry 7 = .ok (.isub, 1) := by decide +kernel
theorem dX10_isEntry_8 : decode cX10_isEntry 8 = .ok (.invokestatic 119, 3) := by decide +kernel
theorem dX10_isEntry_11 : decode cX10_isEntry 11 = .ok (.ifCond .eq 19, 3) := by decide +kernel
theorem dX10_isEntry_14 : decode cX10_isEntry 14 = .ok (.iload_n 2, 1) := by decide +kernel
theorem dX10_isEntry_15 : decode cX10_isEntry 15 = .ok (.iconst 0, 1) := by decide +kernel
theorem dX10_isEntry_16 : decode cX10_isEntry 16 = .ok (.aload_n 0, 1) := by decide +kernel
theorem dX10_isEntry_17 : decode cX10_isEntry 17 = .ok (.getfield 44, 3) := by decide +kernel
theorem dX10_isEntry_20 : decode cX10_isEntry 20 = .ok (.invokestatic 119, 3) := by decide +kernel
theorem dX10_isEntry_23 : decode cX10_isEntry 23 = .ok (.ifCond .eq 7, 3) := by decide +kernel
theorem dX10_isEntry_26 : decode cX10_isEntry 26 = .ok (.iconst 1, 1) := by decide +kernel
theorem dX10_isEntry_27 : decode cX10_isEntry 27 = .ok (.goto 4, 3) := by decide +kernel
theorem dX10_isEntry_30 : decode cX10_isEntry 30 = .ok (.iconst 0, 1) := by decide +kernel
theorem dX10_isEntry_31 : decode cX10_isEntry 31 = .ok (.ireturn, 1) := by decide +kernel
theorem dX10_entry_0 : decode cX10_entry 0 = .ok (.aload_n 0, 1) := by decide +kernel
theorem dX10_entry_1 : decode cX10_entry 1 = .ok (.iconst 0, 1) := by decide +kernel
theorem dX10_entry_2 : decode cX10_entry 2 = .ok (.putfield 52, 3) := by decide +kernel
theorem dX10_entry_5 : decode cX10_entry 5 = .ok (.aload_n 0, 1) := by decide +kernel
theorem dX10_entry_6 : decode cX10_entry 6 = .ok (.iload_n 1, 1) := by decide +kernel
theorem dX10_entry_7 : decode cX10_entry 7 = .ok (.iload_n 2, 1) := by decide +kernel
theorem dX10_entry_8 : decode cX10_entry 8 = .ok (.invokevirtual 159, 3) := by decide +kernel
theorem dX10_entry_11 : decode cX10_entry 11 = .ok (.ifCond .ne 5, 3) := by decide +kernel
theorem dX10_entry_14 : decode cX10_entry 14 = .ok (.iconst (-1), 1) := by decide +kernel
theorem dX10_entry_15 : decode cX10_entry 15 = .ok (.ireturn, 1) := by decide +kernel
theorem dX10_entry_16 : decode cX10_entry 16 = .ok (.lload 5, 2) := by decide +kernel
theorem dX10_entry_18 : decode cX10_entry 18 = .ok (.lconst 0, 1) := by decide +kernel
theorem dX10_entry_19 : decode cX10_entry 19 = .ok (.lcmp, 1) := by decide +kernel
theorem dX10_entry_20 : decode cX10_entry 20 = .ok (.ifCond .ne 6, 3) := by decide +kernel
theorem dX10_entry_23 : decode cX10_entry 23 = .ok (.bipush (-2), 2) := by decide +kernel
theorem dX10_entry_25 : decode cX10_entry 25 = .ok (.ireturn, 1) := by decide +kernel
theorem dX10_entry_26 : decode cX10_entry 26 = .ok (.aload_n 0, 1) := by decide +kernel
theorem dX10_entry_27 : decode cX10_entry 27 = .ok (.bipush 40, 2) := by decide +kernel
theorem dX10_entry_29 : decode cX10_entry 29 = .ok (.bipush 6, 2) := by decide +kernel
theorem dX10_entry_31 : decode cX10_entry 31 = .ok (.iload_n 1, 1) := by decide +kernel
theorem dX10_entry_32 : decode cX10_entry 32 = .ok (.imul, 1) := by decide +kernel
theorem dX10_entry_33 : decode cX10_entry 33 = .ok (.iadd, 1) := by decide +kernel
theorem dX10_entry_34 : decode cX10_entry 34 = .ok (.iload_n 2, 1) := by decide +kernel
theorem dX10_entry_35 : decode cX10_entry 35 = .ok (.iadd, 1) := by decide +kernel
theorem dX10_entry_36 : decode cX10_entry 36 = .ok (.lload_n 3, 1) := by decide +kernel
theorem dX10_entry_37 : decode cX10_entry 37 = .ok (.lload 5, 2) := by decide +kernel
theorem dX10_entry_39 : decode cX10_entry 39 = .ok (.invokevirtual 133, 3) := by decide +kernel
theorem dX10_entry_42 : decode cX10_entry 42 = .ok (.iconst 1, 1) := by decide +kernel
theorem dX10_entry_43 : decode cX10_entry 43 = .ok (.ireturn, 1) := by decide +kernel
theorem dX10_put_0 : decode cX10_put 0 = .ok (.aload_n 0, 1) := by decide +kernel
theorem dX10_put_1 : decode cX10_put 1 = .ok (.iconst 0, 1) := by decide +kernel
theorem dX10_put_2 : decode cX10_put 2 = .ok (.putfield 52, 3) := by decide +kernel
theorem dX10_put_5 : decode cX10_put 5 = .ok (.aload_n 0, 1) := by decide +kernel
theorem dX10_put_6 : decode cX10_put 6 = .ok (.iload_n 1, 1) := by decide +kernel
theorem dX10_put_7 : decode cX10_put 7 = .ok (.iload_n 2, 1) := by decide +kernel
theorem dX10_put_8 : decode cX10_put 8 = .ok (.invokevirtual 159, 3) := by decide +kernel
theorem dX10_put_11 : decode cX10_put 11 = .ok (.ifCond .eq 11, 3) := by decide +kernel
theorem dX10_put_14 : decode cX10_put 14 = .ok (.aload_n 0, 1) := by decide +kernel
theorem dX10_put_15 : decode cX10_put 15 = .ok (.iload_n 3, 1) := by decide +kernel
theorem dX10_put_16 : decode cX10_put 16 = .ok (.invokevirtual 137, 3) := by decide +kernel
theorem dX10_put_19 : decode cX10_put 19 = .ok (.ifCond .ne 5, 3) := by decide +kernel
theorem dX10_put_22 : decode cX10_put 22 = .ok (.iconst (-1), 1) := by decide +kernel
theorem dX10_put_23 : decode cX10_put 23 = .ok (.ireturn, 1) := by decide +kernel
theorem dX10_put_24 : decode cX10_put 24 = .ok (.aload_n 0, 1) := by decide +kernel
theorem dX10_put_25 : decode cX10_put 25 = .ok (.iload_n 3, 1) := by decide +kernel
theorem dX10_put_26 : decode cX10_put 26 = .ok (.bipush 40, 2) := by decide +kernel
theorem dX10_put_28 : decode cX10_put 28 = .ok (.bipush 6, 2) := by decide +kernel
theorem dX10_put_30 : decode cX10_put 30 = .ok (.iload_n 1, 1) := by decide +kernel
theorem dX10_put_31 : decode cX10_put 31 = .ok (.imul, 1) := by decide +kernel
theorem dX10_put_32 : decode cX10_put 32 = .ok (.iadd, 1) := by decide +kernel
theorem dX10_put_33 : decode cX10_put 33 = .ok (.iload_n 2, 1) := by decide +kernel
theorem dX10_put_34 : decode cX10_put 34 = .ok (.iadd, 1) := by decide +kernel
theorem dX10_put_35 : decode cX10_put 35 = .ok (.invokevirtual 126, 3) := by decide +kernel
theorem dX10_put_38 : decode cX10_put 38 = .ok (.iconst 1, 1) := by decide +kernel
theorem dX10_put_39 : decode cX10_put 39 = .ok (.ireturn, 1) := by decide +kernel
theorem dX10_take_0 : decode cX10_take 0 = .ok (.aload_n 0, 1) := by decide +kernel
theorem dX10_take_1 : decode cX10_take 1 = .ok (.iconst 0, 1) := by decide +kernel
theorem dX10_take_2 : decode cX10_take 2 = .ok (.putfield 52, 3) := by decide +kernel
theorem dX10_take_5 : decode cX10_take 5 = .ok (.aload_n 0, 1) := by decide +kernel
theorem dX10_take_6 : decode cX10_take 6 = .ok (.iload_n 1, 1) := by decide +kernel
theorem dX10_take_7 : decode cX10_take 7 = .ok (.iload_n 2, 1) := by decide +kernel
theorem dX10_take_8 : decode cX10_take 8 = .ok (.invokevirtual 159, 3) := by decide +kernel
theorem dX10_take_11 : decode cX10_take 11 = .ok (.ifCond .ne 5, 3) := by decide +kernel
theorem dX10_take_14 : decode cX10_take 14 = .ok (.iconst (-1), 1) := by decide +kernel
theorem dX10_take_15 : decode cX10_take 15 = .ok (.ireturn, 1) := by decide +kernel
theorem dX10_take_16 : decode cX10_take 16 = .ok (.aload_n 0, 1) := by decide +kernel
theorem dX10_take_17 : decode cX10_take 17 = .ok (.getfield 116, 3) := by decide +kernel
theorem dX10_take_20 : decode cX10_take 20 = .ok (.bipush 40, 2) := by decide +kernel
theorem dX10_take_22 : decode cX10_take 22 = .ok (.if_icmp .ne 8, 3) := by decide +kernel
theorem dX10_take_25 : decode cX10_take 25 = .ok (.bipush (-4), 2) := by decide +kernel
theorem dX10_take_27 : decode cX10_take 27 = .ok (.goto 16, 3) := by decide +kernel
theorem dX10_take_30 : decode cX10_take 30 = .ok (.aload_n 0, 1) := by decide +kernel
theorem dX10_take_31 : decode cX10_take 31 = .ok (.bipush 40, 2) := by decide +kernel
theorem dX10_take_33 : decode cX10_take 33 = .ok (.bipush 6, 2) := by decide +kernel
theorem dX10_take_35 : decode cX10_take 35 = .ok (.iload_n 1, 1) := by decide +kernel
theorem dX10_take_36 : decode cX10_take 36 = .ok (.imul, 1) := by decide +kernel
theorem dX10_take_37 : decode cX10_take 37 = .ok (.iadd, 1) := by decide +kernel
theorem dX10_take_38 : decode cX10_take 38 = .ok (.iload_n 2, 1) := by decide +kernel
theorem dX10_take_39 : decode cX10_take 39 = .ok (.iadd, 1) := by decide +kernel
theorem dX10_take_40 : decode cX10_take 40 = .ok (.invokevirtual 150, 3) := by decide +kernel
theorem dX10_take_43 : decode cX10_take 43 = .ok (.ireturn, 1) := by decide +kernel
theorem dX10_taken_0 : decode cX10_taken 0 = .ok (.bipush (-6), 2) := by decide +kernel
theorem dX10_taken_2 : decode cX10_taken 2 = .ok (.istore 4, 2) := by decide +kernel
theorem dX10_taken_4 : decode cX10_taken 4 = .ok (.iload_n 2, 1) := by decide +kernel
theorem dX10_taken_5 : decode cX10_taken 5 = .ok (.istore 5, 2) := by decide +kernel
theorem dX10_taken_7 : decode cX10_taken 7 = .ok (.iload 5, 2) := by decide +kernel
theorem dX10_taken_9 : decode cX10_taken 9 = .ok (.aload_n 0, 1) := by decide +kernel
theorem dX10_taken_10 : decode cX10_taken 10 = .ok (.getfield 44, 3) := by decide +kernel
theorem dX10_taken_13 : decode cX10_taken 13 = .ok (.if_icmp .ge 73, 3) := by decide +kernel
theorem dX10_taken_16 : decode cX10_taken 16 = .ok (.aload_n 0, 1) := by decide +kernel
theorem dX10_taken_17 : decode cX10_taken 17 = .ok (.bipush 70, 2) := by decide +kernel
theorem dX10_taken_19 : decode cX10_taken 19 = .ok (.bipush 6, 2) := by decide +kernel
theorem dX10_taken_21 : decode cX10_taken 21 = .ok (.iload 5, 2) := by decide +kernel
theorem dX10_taken_23 : decode cX10_taken 23 = .ok (.imul, 1) := by decide +kernel
theorem dX10_taken_24 : decode cX10_taken 24 = .ok (.iadd, 1) := by decide +kernel
theorem dX10_taken_25 : decode cX10_taken 25 = .ok (.iload_n 3, 1) := by decide +kernel
theorem dX10_taken_26 : decode cX10_taken 26 = .ok (.iadd, 1) := by decide +kernel
theorem dX10_taken_27 : decode cX10_taken 27 = .ok (.invokevirtual 92, 3) := by decide +kernel
theorem dX10_taken_30 : decode cX10_taken 30 = .ok (.ifCond .ne 50, 3) := by decide +kernel
theorem dX10_taken_33 : decode cX10_taken 33 = .ok (.iload 4, 2) := by decide +kernel
theorem dX10_taken_35 : decode cX10_taken 35 = .ok (.bipush (-6), 2) := by decide +kernel
theorem dX10_taken_37 : decode cX10_taken 37 = .ok (.if_icmp .eq 39, 3) := by decide +kernel
theorem dX10_taken_40 : decode cX10_taken 40 = .ok (.iload_n 1, 1) := by decide +kernel
theorem dX10_taken_41 : decode cX10_taken 41 = .ok (.iconst 1, 1) := by decide +kernel
theorem dX10_taken_42 : decode cX10_taken 42 = .ok (.if_icmp .ne 38, 3) := by decide +kernel
theorem dX10_taken_45 : decode cX10_taken 45 = .ok (.aload_n 0, 1) := by decide +kernel
theorem dX10_taken_46 : decode cX10_taken 46 = .ok (.bipush 70, 2) := by decide +kernel
theorem dX10_taken_48 : decode cX10_taken 48 = .ok (.bipush 6, 2) := by decide +kernel
theorem dX10_taken_50 : decode cX10_taken 50 = .ok (.iload 5, 2) := by decide +kernel
theorem dX10_taken_52 : decode cX10_taken 52 = .ok (.imul, 1) := by decide +kernel
theorem dX10_taken_53 : decode cX10_taken 53 = .ok (.iadd, 1) := by decide +kernel
theorem dX10_taken_54 : decode cX10_taken 54 = .ok (.iload_n 3, 1) := by decide +kernel
theorem dX10_taken_55 : decode cX10_taken 55 = .ok (.iadd, 1) := by decide +kernel
theorem dX10_taken_56 : decode cX10_taken 56 = .ok (.invokevirtual 156, 3) := by decide +kernel
theorem dX10_taken_59 : decode cX10_taken 59 = .ok (.aload_n 0, 1) := by decide +kernel
theorem dX10_taken_60 : decode cX10_taken 60 = .ok (.bipush 70, 2) := by decide +kernel
theorem dX10_taken_62 : decode cX10_taken 62 = .ok (.bipush 6, 2) := by decide +kernel
theorem dX10_taken_64 : decode cX10_taken 64 = .ok (.iload 4, 2) := by decide +kernel
theorem dX10_taken_66 : decode cX10_taken 66 = .ok (.imul, 1) := by decide +kernel
theorem dX10_taken_67 : decode cX10_taken 67 = .ok (.iadd, 1) := by decide +kernel
theorem dX10_taken_68 : decode cX10_taken 68 = .ok (.iload_n 3, 1) := by decide +kernel
theorem dX10_taken_69 : decode cX10_taken 69 = .ok (.iadd, 1) := by decide +kernel
theorem dX10_taken_70 : decode cX10_taken 70 = .ok (.invokevirtual 156, 3) := by decide +kernel
theorem dX10_taken_73 : decode cX10_taken 73 = .ok (.if_icmp .ge 7, 3) := by decide +kernel
theorem dX10_taken_76 : decode cX10_taken 76 = .ok (.iload 5, 2) := by decide +kernel
theorem dX10_taken_78 : decode cX10_taken 78 = .ok (.istore 4, 2) := by decide +kernel
theorem dX10_taken_80 : decode cX10_taken 80 = .ok (.iinc 5 1, 3) := by decide +kernel
theorem dX10_taken_83 : decode cX10_taken 83 = .ok (.goto (-76), 3) := by decide +kernel
theorem dX10_taken_86 : decode cX10_taken 86 = .ok (.iload 4, 2) := by decide +kernel
theorem dX10_taken_88 : decode cX10_taken 88 = .ok (.ireturn, 1) := by decide +kernel
theorem dX10_exchange_0 : decode cX10_exchange 0 = .ok (.iconst 0, 1) := by decide +kernel
theorem dX10_exchange_1 : decode cX10_exchange 1 = .ok (.istore_n 3, 1) := by decide +kernel
theorem dX10_exchange_2 : decode cX10_exchange 2 = .ok (.iload_n 3, 1) := by decide +kernel
theorem dX10_exchange_3 : decode cX10_exchange 3 = .ok (.aload_n 0, 1) := by decide +kernel
theorem dX10_exchange_4 : decode cX10_exchange 4 = .ok (.getfield 44, 3) := by decide +kernel
theorem dX10_exchange_7 : decode cX10_exchange 7 = .ok (.if_icmp .gt 61, 3) := by decide +kernel
theorem dX10_exchange_10 : decode cX10_exchange 10 = .ok (.aload_n 0, 1) := by decide +kernel
theorem dX10_exchange_11 : decode cX10_exchange 11 = .ok (.bipush 70, 2) := by decide +kernel
theorem dX10_exchange_13 : decode cX10_exchange 13 = .ok (.bipush 6, 2) := by decide +kernel
theorem dX10_exchange_15 : decode cX10_exchange 15 = .ok (.iload_n 1, 1) := by decide +kernel
theorem dX10_exchange_16 : decode cX10_exchange 16 = .ok (.imul, 1) := by decide +kernel
theorem dX10_exchange_17 : decode cX10_exchange 17 = .ok (.iadd, 1) := by decide +kernel
theorem dX10_exchange_18 : decode cX10_exchange 18 = .ok (.iload_n 3, 1) := by decide +kernel
theorem dX10_exchange_19 : decode cX10_exchange 19 = .ok (.iadd, 1) := by decide +kernel
theorem dX10_exchange_20 : decode cX10_exchange 20 = .ok (.bipush 106, 2) := by decide +kernel
theorem dX10_exchange_22 : decode cX10_exchange 22 = .ok (.invokevirtual 126, 3) := by decide +kernel
theorem dX10_exchange_25 : decode cX10_exchange 25 = .ok (.aload_n 0, 1) := by decide +kernel
theorem dX10_exchange_26 : decode cX10_exchange 26 = .ok (.bipush 70, 2) := by decide +kernel
theorem dX10_exchange_28 : decode cX10_exchange 28 = .ok (.bipush 6, 2) := by decide +kernel
theorem dX10_exchange_30 : decode cX10_exchange 30 = .ok (.iload_n 2, 1) := by decide +kernel
theorem dX10_exchange_31 : decode cX10_exchange 31 = .ok (.imul, 1) := by decide +kernel
theorem dX10_exchange_32 : decode cX10_exchange 32 = .ok (.iadd, 1) := by decide +kernel
theorem dX10_exchange_33 : decode cX10_exchange 33 = .ok (.iload_n 3, 1) := by decide +kernel
theorem dX10_exchange_34 : decode cX10_exchange 34 = .ok (.iadd, 1) := by decide +kernel
theorem dX10_exchange_35 : decode cX10_exchange 35 = .ok (.bipush 70, 2) := by decide +kernel
theorem dX10_exchange_37 : decode cX10_exchange 37 = .ok (.bipush 6, 2) := by decide +kernel
theorem dX10_exchange_39 : decode cX10_exchange 39 = .ok (.iload_n 1, 1) := by decide +kernel
theorem dX10_exchange_40 : decode cX10_exchange 40 = .ok (.imul, 1) := by decide +kernel
theorem dX10_exchange_41 : decode cX10_exchange 41 = .ok (.iadd, 1) := by decide +kernel
theorem dX10_exchange_42 : decode cX10_exchange 42 = .ok (.iload_n 3, 1) := by decide +kernel
theorem dX10_exchange_43 : decode cX10_exchange 43 = .ok (.iadd, 1) := by decide +kernel
theorem dX10_exchange_44 : decode cX10_exchange 44 = .ok (.invokevirtual 126, 3) := by decide +kernel
theorem dX10_exchange_47 : decode cX10_exchange 47 = .ok (.aload_n 0, 1) := by decide +kernel
theorem dX10_exchange_48 : decode cX10_exchange 48 = .ok (.bipush 106, 2) := by decide +kernel
theorem dX10_exchange_50 : decode cX10_exchange 50 = .ok (.bipush 70, 2) := by decide +kernel
theorem dX10_exchange_52 : decode cX10_exchange 52 = .ok (.bipush 6, 2) := by decide +kernel
theorem dX10_exchange_54 : decode cX10_exchange 54 = .ok (.iload_n 2, 1) := by decide +kernel
theorem dX10_exchange_55 : decode cX10_exchange 55 = .ok (.imul, 1) := by decide +kernel
theorem dX10_exchange_56 : decode cX10_exchange 56 = .ok (.iadd, 1) := by decide +kernel
theorem dX10_exchange_57 : decode cX10_exchange 57 = .ok (.iload_n 3, 1) := by decide +kernel
theorem dX10_exchange_58 : decode cX10_exchange 58 = .ok (.iadd, 1) := by decide +kernel
theorem dX10_exchange_59 : decode cX10_exchange 59 = .ok (.invokevirtual 126, 3) := by decide +kernel
theorem dX10_exchange_62 : decode cX10_exchange 62 = .ok (.iinc 3 1, 3) := by decide +kernel
theorem dX10_exchange_65 : decode cX10_exchange 65 = .ok (.goto (-63), 3) := by decide +kernel
theorem dX10_exchange_68 : decode cX10_exchange 68 = .ok (.aload_n 0, 1) := by decide +kernel
theorem dX10_exchange_69 : decode cX10_exchange 69 = .ok (.getfield 35, 3) := by decide +kernel
theorem dX10_exchange_72 : decode cX10_exchange 72 = .ok (.iload_n 1, 1) := by decide +kernel
theorem dX10_exchange_73 : decode cX10_exchange 73 = .ok (.iaload, 1) := by decide +kernel
theorem dX10_exchange_74 : decode cX10_exchange 74 = .ok (.istore_n 3, 1) := by decide +kernel
theorem dX10_exchange_75 : decode cX10_exchange 75 = .ok (.aload_n 0, 1) := by decide +kernel
theorem dX10_exchange_76 : decode cX10_exchange 76 = .ok (.getfield 35, 3) := by decide +kernel
theorem dX10_exchange_79 : decode cX10_exchange 79 = .ok (.iload_n 1, 1) := by decide +kernel
theorem dX10_exchange_80 : decode cX10_exchange 80 = .ok (.aload_n 0, 1) := by decide +kernel
theorem dX10_exchange_81 : decode cX10_exchange 81 = .ok (.getfield 35, 3) := by decide +kernel
theorem dX10_exchange_84 : decode cX10_exchange 84 = .ok (.iload_n 2, 1) := by decide +kernel
theorem dX10_exchange_85 : decode cX10_exchange 85 = .ok (.iaload, 1) := by decide +kernel
theorem dX10_exchange_86 : decode cX10_exchange 86 = .ok (.iastore, 1) := by decide +kernel
theorem dX10_exchange_87 : decode cX10_exchange 87 = .ok (.aload_n 0, 1) := by decide +kernel
theorem dX10_exchange_88 : decode cX10_exchange 88 = .ok (.getfield 35, 3) := by decide +kernel
theorem dX10_exchange_91 : decode cX10_exchange 91 = .ok (.iload_n 2, 1) := by decide +kernel
theorem dX10_exchange_92 : decode cX10_exchange 92 = .ok (.iload_n 3, 1) := by decide +kernel
theorem dX10_exchange_93 : decode cX10_exchange 93 = .ok (.iastore, 1) := by decide +kernel
theorem dX10_exchange_94 : decode cX10_exchange 94 = .ok (.return_, 1) := by decide +kernel
theorem dX10_cleared_0 : decode cX10_cleared 0 = .ok (.iload_n 1, 1) := by decide +kernel
theorem dX10_cleared_1 : decode cX10_cleared 1 = .ok (.iconst 1, 1) := by decide +kernel
theorem dX10_cleared_2 : decode cX10_cleared 2 = .ok (.iadd, 1) := by decide +kernel
theorem dX10_cleared_3 : decode cX10_cleared 3 = .ok (.istore 4, 2) := by decide +kernel
theorem dX10_cleared_5 : decode cX10_cleared 5 = .ok (.iload 4, 2) := by decide +kernel
theorem dX10_cleared_7 : decode cX10_cleared 7 = .ok (.aload_n 0, 1) := by decide +kernel
theorem dX10_cleared_8 : decode cX10_cleared 8 = .ok (.getfield 44, 3) := by decide +kernel
theorem dX10_cleared_11 : decode cX10_cleared 11 = .ok (.if_icmp .ge 142, 3) := by decide +kernel
theorem dX10_cleared_14 : decode cX10_cleared 14 = .ok (.aload_n 0, 1) := by decide +kernel
theorem dX10_cleared_15 : decode cX10_cleared 15 = .ok (.bipush 70, 2) := by decide +kernel
theorem dX10_cleared_17 : decode cX10_cleared 17 = .ok (.bipush 6, 2) := by decide +kernel
theorem dX10_cleared_19 : decode cX10_cleared 19 = .ok (.iload 4, 2) := by decide +kernel
theorem dX10_cleared_21 : decode cX10_cleared 21 = .ok (.imul, 1) := by decide +kernel
theorem dX10_cleared_22 : decode cX10_cleared 22 = .ok (.iadd, 1) := by decide +kernel
theorem dX10_cleared_23 : decode cX10_cleared 23 = .ok (.iload_n 2, 1) := by decide +kernel
theorem dX10_cleared_24 : decode cX10_cleared 24 = .ok (.iadd, 1) := by decide +kernel
theorem dX10_cleared_25 : decode cX10_cleared 25 = .ok (.invokevirtual 92, 3) := by decide +kernel
theorem dX10_cleared_28 : decode cX10_cleared 28 = .ok (.ifCond .ne 119, 3) := by decide +kernel
theorem dX10_cleared_31 : decode cX10_cleared 31 = .ok (.aload_n 0, 1) := by decide +kernel
theorem dX10_cleared_32 : decode cX10_cleared 32 = .ok (.bipush 70, 2) := by decide +kernel
theorem dX10_cleared_34 : decode cX10_cleared 34 = .ok (.bipush 6, 2) := by decide +kernel
theorem dX10_cleared_36 : decode cX10_cleared 36 = .ok (.iload 4, 2) := by decide +kernel
theorem dX10_cleared_38 : decode cX10_cleared 38 = .ok (.imul, 1) := by decide +kernel
theorem dX10_cleared_39 : decode cX10_cleared 39 = .ok (.iadd, 1) := by decide +kernel
theorem dX10_cleared_40 : decode cX10_cleared 40 = .ok (.iload_n 2, 1) := by decide +kernel
theorem dX10_cleared_41 : decode cX10_cleared 41 = .ok (.iadd, 1) := by decide +kernel
theorem dX10_cleared_42 : decode cX10_cleared 42 = .ok (.bipush 70, 2) := by decide +kernel
theorem dX10_cleared_44 : decode cX10_cleared 44 = .ok (.bipush 6, 2) := by decide +kernel
theorem dX10_cleared_46 : decode cX10_cleared 46 = .ok (.iload_n 1, 1) := by decide +kernel
theorem dX10_cleared_47 : decode cX10_cleared 47 = .ok (.imul, 1) := by decide +kernel
theorem dX10_cleared_48 : decode cX10_cleared 48 = .ok (.iadd, 1) := by decide +kernel
theorem dX10_cleared_49 : decode cX10_cleared 49 = .ok (.iload_n 2, 1) := by decide +kernel
theorem dX10_cleared_50 : decode cX10_cleared 50 = .ok (.iadd, 1) := by decide +kernel
theorem dX10_cleared_51 : decode cX10_cleared 51 = .ok (.bipush 106, 2) := by decide +kernel
theorem dX10_cleared_53 : decode cX10_cleared 53 = .ok (.invokevirtual 147, 3) := by decide +kernel
theorem dX10_cleared_56 : decode cX10_cleared 56 = .ok (.ifCond .ne 5, 3) := by decide +kernel
theorem dX10_cleared_59 : decode cX10_cleared 59 = .ok (.iconst 0, 1) := by decide +kernel
theorem dX10_cleared_60 : decode cX10_cleared 60 = .ok (.ireturn, 1) := by decide +kernel
theorem dX10_cleared_61 : decode cX10_cleared 61 = .ok (.iload_n 2, 1) := by decide +kernel
theorem dX10_cleared_62 : decode cX10_cleared 62 = .ok (.iconst 1, 1) := by decide +kernel
theorem dX10_cleared_63 : decode cX10_cleared 63 = .ok (.iadd, 1) := by decide +kernel
theorem dX10_cleared_64 : decode cX10_cleared 64 = .ok (.istore 5, 2) := by decide +kernel
theorem dX10_cleared_66 : decode cX10_cleared 66 = .ok (.iload 5, 2) := by decide +kernel
theorem dX10_cleared_68 : decode cX10_cleared 68 = .ok (.iload_n 3, 1) := by decide +kernel
theorem dX10_cleared_69 : decode cX10_cleared 69 = .ok (.if_icmp .gt 64, 3) := by decide +kernel
theorem dX10_cleared_72 : decode cX10_cleared 72 = .ok (.aload_n 0, 1) := by decide +kernel
theorem dX10_cleared_73 : decode cX10_cleared 73 = .ok (.bipush 106, 2) := by decide +kernel
theorem dX10_cleared_75 : decode cX10_cleared 75 = .ok (.bipush 70, 2) := by decide +kernel
theorem dX10_cleared_77 : decode cX10_cleared 77 = .ok (.bipush 6, 2) := by decide +kernel
theorem dX10_cleared_79 : decode cX10_cleared 79 = .ok (.iload_n 1, 1) := by decide +kernel
theorem dX10_cleared_80 : decode cX10_cleared 80 = .ok (.imul, 1) := by decide +kernel
theorem dX10_cleared_81 : decode cX10_cleared 81 = .ok (.iadd, 1) := by decide +kernel
theorem dX10_cleared_82 : decode cX10_cleared 82 = .ok (.iload 5, 2) := by decide +kernel
theorem dX10_cleared_84 : decode cX10_cleared 84 = .ok (.iadd, 1) := by decide +kernel
theorem dX10_cleared_85 : decode cX10_cleared 85 = .ok (.bipush 107, 2) := by decide +kernel
theorem dX10_cleared_87 : decode cX10_cleared 87 = .ok (.invokevirtual 144, 3) := by decide +kernel
theorem dX10_cleared_90 : decode cX10_cleared 90 = .ok (.ifCond .eq 35, 3) := by decide +kernel
theorem dX10_cleared_93 : decode cX10_cleared 93 = .ok (.aload_n 0, 1) := by decide +kernel
theorem dX10_cleared_94 : decode cX10_cleared 94 = .ok (.bipush 70, 2) := by decide +kernel
theorem dX10_cleared_96 : decode cX10_cleared 96 = .ok (.bipush 6, 2) := by decide +kernel
theorem dX10_cleared_98 : decode cX10_cleared 98 = .ok (.iload 4, 2) := by decide +kernel
theorem dX10_cleared_100 : decode cX10_cleared 100 = .ok (.imul, 1) := by decide +kernel
theorem dX10_cleared_101 : decode cX10_cleared 101 = .ok (.iadd, 1) := by decide +kernel
theorem dX10_cleared_102 : decode cX10_cleared 102 = .ok (.iload 5, 2) := by decide +kernel
theorem dX10_cleared_104 : decode cX10_cleared 104 = .ok (.iadd, 1) := by decide +kernel
theorem dX10_cleared_105 : decode cX10_cleared 105 = .ok (.bipush 107, 2) := by decide +kernel
theorem dX10_cleared_107 : decode cX10_cleared 107 = .ok (.bipush 70, 2) := by decide +kernel
theorem dX10_cleared_109 : decode cX10_cleared 109 = .ok (.bipush 6, 2) := by decide +kernel
theorem dX10_cleared_111 : decode cX10_cleared 111 = .ok (.iload 4, 2) := by decide +kernel
theorem dX10_cleared_113 : decode cX10_cleared 113 = .ok (.imul, 1) := by decide +kernel
theorem dX10_cleared_114 : decode cX10_cleared 114 = .ok (.iadd, 1) := by decide +kernel
theorem dX10_cleared_115 : decode cX10_cleared 115 = .ok (.iload 5, 2) := by decide +kernel
theorem dX10_cleared_117 : decode cX10_cleared 117 = .ok (.iadd, 1) := by decide +kernel
theorem dX10_cleared_118 : decode cX10_cleared 118 = .ok (.iconst 1, 1) := by decide +kernel
theorem dX10_cleared_119 : decode cX10_cleared 119 = .ok (.invokevirtual 140, 3) := by decide +kernel
theorem dX10_cleared_122 : decode cX10_cleared 122 = .ok (.ifCond .ne 5, 3) := by decide +kernel
theorem dX10_cleared_125 : decode cX10_cleared 125 = .ok (.iconst 0, 1) := by decide +kernel
theorem dX10_cleared_126 : decode cX10_cleared 126 = .ok (.ireturn, 1) := by decide +kernel
theorem dX10_cleared_127 : decode cX10_cleared 127 = .ok (.iinc 5 1, 3) := by decide +kernel
theorem dX10_cleared_130 : decode cX10_cleared 130 = .ok (.goto (-64), 3) := by decide +kernel
theorem dX10_cleared_133 : decode cX10_cleared 133 = .ok (.aload_n 0, 1) := by decide +kernel
theorem dX10_cleared_134 : decode cX10_cleared 134 = .ok (.bipush 70, 2) := by decide +kernel
theorem dX10_cleared_136 : decode cX10_cleared 136 = .ok (.bipush 6, 2) := by decide +kernel
theorem dX10_cleared_138 : decode cX10_cleared 138 = .ok (.iload 4, 2) := by decide +kernel
theorem dX10_cleared_140 : decode cX10_cleared 140 = .ok (.imul, 1) := by decide +kernel
theorem dX10_cleared_141 : decode cX10_cleared 141 = .ok (.iadd, 1) := by decide +kernel
theorem dX10_cleared_142 : decode cX10_cleared 142 = .ok (.iload_n 2, 1) := by decide +kernel
theorem dX10_cleared_143 : decode cX10_cleared 143 = .ok (.iadd, 1) := by decide +kernel
theorem dX10_cleared_144 : decode cX10_cleared 144 = .ok (.invokevirtual 48, 3) := by decide +kernel
theorem dX10_cleared_147 : decode cX10_cleared 147 = .ok (.iinc 4 1, 3) := by decide +kernel
theorem dX10_cleared_150 : decode cX10_cleared 150 = .ok (.goto (-145), 3) := by decide +kernel
theorem dX10_cleared_153 : decode cX10_cleared 153 = .ok (.iconst 1, 1) := by decide +kernel
theorem dX10_cleared_154 : decode cX10_cleared 154 = .ok (.ireturn, 1) := by decide +kernel
theorem dX10_eliminated_0 : decode cX10_eliminated 0 = .ok (.iconst 0, 1) := by decide +kernel
theorem dX10_eliminated_1 : decode cX10_eliminated 1 = .ok (.istore_n 3, 1) := by decide +kernel
theorem dX10_eliminated_2 : decode cX10_eliminated 2 = .ok (.iload_n 3, 1) := by decide +kernel
theorem dX10_eliminated_3 : decode cX10_eliminated 3 = .ok (.aload_n 0, 1) := by decide +kernel
theorem dX10_eliminated_4 : decode cX10_eliminated 4 = .ok (.getfield 44, 3) := by decide +kernel
theorem dX10_eliminated_7 : decode cX10_eliminated 7 = .ok (.if_icmp .ge 58, 3) := by decide +kernel
theorem dX10_eliminated_10 : decode cX10_eliminated 10 = .ok (.aload_n 0, 1) := by decide +kernel
theorem dX10_eliminated_11 : decode cX10_eliminated 11 = .ok (.getfield 35, 3) := by decide +kernel
theorem dX10_eliminated_14 : decode cX10_eliminated 14 = .ok (.iload_n 3, 1) := by decide +kernel
theorem dX10_eliminated_15 : decode cX10_eliminated 15 = .ok (.iload_n 3, 1) := by decide +kernel
theorem dX10_eliminated_16 : decode cX10_eliminated 16 = .ok (.iastore, 1) := by decide +kernel
theorem dX10_eliminated_17 : decode cX10_eliminated 17 = .ok (.iconst 0, 1) := by decide +kernel
theorem dX10_eliminated_18 : decode cX10_eliminated 18 = .ok (.istore 4, 2) := by decide +kernel
theorem dX10_eliminated_20 : decode cX10_eliminated 20 = .ok (.iload 4, 2) := by decide +kernel
theorem dX10_eliminated_22 : decode cX10_eliminated 22 = .ok (.aload_n 0, 1) := by decide +kernel
theorem dX10_eliminated_23 : decode cX10_eliminated 23 = .ok (.getfield 44, 3) := by decide +kernel
theorem dX10_eliminated_26 : decode cX10_eliminated 26 = .ok (.if_icmp .gt 33, 3) := by decide +kernel
theorem dX10_eliminated_29 : decode cX10_eliminated 29 = .ok (.aload_n 0, 1) := by decide +kernel
theorem dX10_eliminated_30 : decode cX10_eliminated 30 = .ok (.bipush 40, 2) := by decide +kernel
theorem dX10_eliminated_32 : decode cX10_eliminated 32 = .ok (.bipush 6, 2) := by decide +kernel
theorem dX10_eliminated_34 : decode cX10_eliminated 34 = .ok (.iload_n 3, 1) := by decide +kernel
theorem dX10_eliminated_35 : decode cX10_eliminated 35 = .ok (.imul, 1) := by decide +kernel
theorem dX10_eliminated_36 : decode cX10_eliminated 36 = .ok (.iadd, 1) := by decide +kernel
theorem dX10_eliminated_37 : decode cX10_eliminated 37 = .ok (.iload 4, 2) := by decide +kernel
theorem dX10_eliminated_39 : decode cX10_eliminated 39 = .ok (.iadd, 1) := by decide +kernel
theorem dX10_eliminated_40 : decode cX10_eliminated 40 = .ok (.bipush 70, 2) := by decide +kernel
theorem dX10_eliminated_42 : decode cX10_eliminated 42 = .ok (.bipush 6, 2) := by decide +kernel
theorem dX10_eliminated_44 : decode cX10_eliminated 44 = .ok (.iload_n 3, 1) := by decide +kernel
theorem dX10_eliminated_45 : decode cX10_eliminated 45 = .ok (.imul, 1) := by decide +kernel
theorem dX10_eliminated_46 : decode cX10_eliminated 46 = .ok (.iadd, 1) := by decide +kernel
theorem dX10_eliminated_47 : decode cX10_eliminated 47 = .ok (.iload 4, 2) := by decide +kernel
theorem dX10_eliminated_49 : decode cX10_eliminated 49 = .ok (.iadd, 1) := by decide +kernel
theorem dX10_eliminated_50 : decode cX10_eliminated 50 = .ok (.invokevirtual 126, 3) := by decide +kernel
theorem dX10_eliminated_53 : decode cX10_eliminated 53 = .ok (.iinc 4 1, 3) := by decide +kernel
theorem dX10_eliminated_56 : decode cX10_eliminated 56 = .ok (.goto (-36), 3) := by decide +kernel
theorem dX10_eliminated_59 : decode cX10_eliminated 59 = .ok (.iinc 3 1, 3) := by decide +kernel
theorem dX10_eliminated_62 : decode cX10_eliminated 62 = .ok (.goto (-60), 3) := by decide +kernel
theorem dX10_eliminated_65 : decode cX10_eliminated 65 = .ok (.aload_n 0, 1) := by decide +kernel
theorem dX10_eliminated_66 : decode cX10_eliminated 66 = .ok (.iconst 0, 1) := by decide +kernel
theorem dX10_eliminated_67 : decode cX10_eliminated 67 = .ok (.putfield 163, 3) := by decide +kernel
theorem dX10_eliminated_70 : decode cX10_eliminated 70 = .ok (.aload_n 0, 1) := by decide +kernel
theorem dX10_eliminated_71 : decode cX10_eliminated 71 = .ok (.iconst 0, 1) := by decide +kernel
theorem dX10_eliminated_72 : decode cX10_eliminated 72 = .ok (.putfield 167, 3) := by decide +kernel
theorem dX10_eliminated_75 : decode cX10_eliminated 75 = .ok (.iconst 0, 1) := by decide +kernel
theorem dX10_eliminated_76 : decode cX10_eliminated 76 = .ok (.istore_n 3, 1) := by decide +kernel
theorem dX10_eliminated_77 : decode cX10_eliminated 77 = .ok (.iconst 0, 1) := by decide +kernel
theorem dX10_eliminated_78 : decode cX10_eliminated 78 = .ok (.istore 4, 2) := by decide +kernel
theorem dX10_eliminated_80 : decode cX10_eliminated 80 = .ok (.iload 4, 2) := by decide +kernel
theorem dX10_eliminated_82 : decode cX10_eliminated 82 = .ok (.aload_n 0, 1) := by decide +kernel
theorem dX10_eliminated_83 : decode cX10_eliminated 83 = .ok (.getfield 44, 3) := by decide +kernel
theorem dX10_eliminated_86 : decode cX10_eliminated 86 = .ok (.if_icmp .ge 122, 3) := by decide +kernel
theorem dX10_eliminated_89 : decode cX10_eliminated 89 = .ok (.aload_n 0, 1) := by decide +kernel
theorem dX10_eliminated_90 : decode cX10_eliminated 90 = .ok (.iload_n 1, 1) := by decide +kernel
theorem dX10_eliminated_91 : decode cX10_eliminated 91 = .ok (.iload_n 3, 1) := by decide +kernel
theorem dX10_eliminated_92 : decode cX10_eliminated 92 = .ok (.iload 4, 2) := by decide +kernel
theorem dX10_eliminated_94 : decode cX10_eliminated 94 = .ok (.invokevirtual 170, 3) := by decide +kernel
theorem dX10_eliminated_97 : decode cX10_eliminated 97 = .ok (.istore 5, 2) := by decide +kernel
theorem dX10_eliminated_99 : decode cX10_eliminated 99 = .ok (.iload 5, 2) := by decide +kernel
theorem dX10_eliminated_101 : decode cX10_eliminated 101 = .ok (.bipush (-6), 2) := by decide +kernel
theorem dX10_eliminated_103 : decode cX10_eliminated 103 = .ok (.if_icmp .ne 11, 3) := by decide +kernel
theorem dX10_eliminated_106 : decode cX10_eliminated 106 = .ok (.aload_n 0, 1) := by decide +kernel
theorem dX10_eliminated_107 : decode cX10_eliminated 107 = .ok (.iconst 1, 1) := by decide +kernel
theorem dX10_eliminated_108 : decode cX10_eliminated 108 = .ok (.putfield 167, 3) := by decide +kernel
theorem dX10_eliminated_111 : decode cX10_eliminated 111 = .ok (.goto 91, 3) := by decide +kernel
theorem dX10_eliminated_114 : decode cX10_eliminated 114 = .ok (.aload_n 0, 1) := by decide +kernel
theorem dX10_eliminated_115 : decode cX10_eliminated 115 = .ok (.getfield 26, 3) := by decide +kernel
theorem dX10_eliminated_118 : decode cX10_eliminated 118 = .ok (.iload_n 3, 1) := by decide +kernel
theorem dX10_eliminated_119 : decode cX10_eliminated 119 = .ok (.iload 4, 2) := by decide +kernel
theorem dX10_eliminated_121 : decode cX10_eliminated 121 = .ok (.iastore, 1) := by decide +kernel
theorem dX10_eliminated_122 : decode cX10_eliminated 122 = .ok (.aload_n 0, 1) := by decide +kernel
theorem dX10_eliminated_123 : decode cX10_eliminated 123 = .ok (.getfield 29, 3) := by decide +kernel
theorem dX10_eliminated_126 : decode cX10_eliminated 126 = .ok (.iload_n 3, 1) := by decide +kernel
theorem dX10_eliminated_127 : decode cX10_eliminated 127 = .ok (.aload_n 0, 1) := by decide +kernel
theorem dX10_eliminated_128 : decode cX10_eliminated 128 = .ok (.getfield 35, 3) := by decide +kernel
theorem dX10_eliminated_131 : decode cX10_eliminated 131 = .ok (.iload 5, 2) := by decide +kernel
theorem dX10_eliminated_133 : decode cX10_eliminated 133 = .ok (.iaload, 1) := by decide +kernel
theorem dX10_eliminated_134 : decode cX10_eliminated 134 = .ok (.iastore, 1) := by decide +kernel
theorem dX10_eliminated_135 : decode cX10_eliminated 135 = .ok (.aload_n 0, 1) := by decide +kernel
theorem dX10_eliminated_136 : decode cX10_eliminated 136 = .ok (.getfield 32, 3) := by decide +kernel
theorem dX10_eliminated_139 : decode cX10_eliminated 139 = .ok (.iload_n 3, 1) := by decide +kernel
theorem dX10_eliminated_140 : decode cX10_eliminated 140 = .ok (.aload_n 0, 1) := by decide +kernel
theorem dX10_eliminated_141 : decode cX10_eliminated 141 = .ok (.bipush 70, 2) := by decide +kernel
theorem dX10_eliminated_143 : decode cX10_eliminated 143 = .ok (.bipush 6, 2) := by decide +kernel
theorem dX10_eliminated_145 : decode cX10_eliminated 145 = .ok (.iload 5, 2) := by decide +kernel
theorem dX10_eliminated_147 : decode cX10_eliminated 147 = .ok (.imul, 1) := by decide +kernel
theorem dX10_eliminated_148 : decode cX10_eliminated 148 = .ok (.iadd, 1) := by decide +kernel
theorem dX10_eliminated_149 : decode cX10_eliminated 149 = .ok (.iload 4, 2) := by decide +kernel
theorem dX10_eliminated_151 : decode cX10_eliminated 151 = .ok (.iadd, 1) := by decide +kernel
theorem dX10_eliminated_152 : decode cX10_eliminated 152 = .ok (.invokevirtual 156, 3) := by decide +kernel
theorem dX10_eliminated_155 : decode cX10_eliminated 155 = .ok (.iastore, 1) := by decide +kernel
theorem dX10_eliminated_156 : decode cX10_eliminated 156 = .ok (.iload 5, 2) := by decide +kernel
theorem dX10_eliminated_158 : decode cX10_eliminated 158 = .ok (.iload_n 3, 1) := by decide +kernel
theorem dX10_eliminated_159 : decode cX10_eliminated 159 = .ok (.if_icmp .eq 26, 3) := by decide +kernel
theorem dX10_eliminated_162 : decode cX10_eliminated 162 = .ok (.aload_n 0, 1) := by decide +kernel
theorem dX10_eliminated_163 : decode cX10_eliminated 163 = .ok (.iload 5, 2) := by decide +kernel
theorem dX10_eliminated_165 : decode cX10_eliminated 165 = .ok (.iload_n 3, 1) := by decide +kernel
theorem dX10_eliminated_166 : decode cX10_eliminated 166 = .ok (.invokevirtual 174, 3) := by decide +kernel
theorem dX10_eliminated_169 : decode cX10_eliminated 169 = .ok (.aload_n 0, 1) := by decide +kernel
theorem dX10_eliminated_170 : decode cX10_eliminated 170 = .ok (.aload_n 0, 1) := by decide +kernel
theorem dX10_eliminated_171 : decode cX10_eliminated 171 = .ok (.getfield 163, 3) := by decide +kernel
theorem dX10_eliminated_174 : decode cX10_eliminated 174 = .ok (.ifCond .ne 7, 3) := by decide +kernel
theorem dX10_eliminated_177 : decode cX10_eliminated 177 = .ok (.iconst 1, 1) := by decide +kernel
theorem dX10_eliminated_178 : decode cX10_eliminated 178 = .ok (.goto 4, 3) := by decide +kernel
theorem dX10_eliminated_181 : decode cX10_eliminated 181 = .ok (.iconst 0, 1) := by decide +kernel
theorem dX10_eliminated_182 : decode cX10_eliminated 182 = .ok (.putfield 163, 3) := by decide +kernel
theorem dX10_eliminated_185 : decode cX10_eliminated 185 = .ok (.aload_n 0, 1) := by decide +kernel
theorem dX10_eliminated_186 : decode cX10_eliminated 186 = .ok (.iload_n 3, 1) := by decide +kernel
theorem dX10_eliminated_187 : decode cX10_eliminated 187 = .ok (.iload 4, 2) := by decide +kernel
theorem dX10_eliminated_189 : decode cX10_eliminated 189 = .ok (.iload_n 2, 1) := by decide +kernel
theorem dX10_eliminated_190 : decode cX10_eliminated 190 = .ok (.invokevirtual 177, 3) := by decide +kernel
theorem dX10_eliminated_193 : decode cX10_eliminated 193 = .ok (.ifCond .ne 6, 3) := by decide +kernel
theorem dX10_eliminated_196 : decode cX10_eliminated 196 = .ok (.bipush (-3), 2) := by decide +kernel
theorem dX10_eliminated_198 : decode cX10_eliminated 198 = .ok (.ireturn, 1) := by decide +kernel
theorem dX10_eliminated_199 : decode cX10_eliminated 199 = .ok (.iinc 3 1, 3) := by decide +kernel
theorem dX10_eliminated_202 : decode cX10_eliminated 202 = .ok (.iinc 4 1, 3) := by decide +kernel
theorem dX10_eliminated_205 : decode cX10_eliminated 205 = .ok (.goto (-125), 3) := by decide +kernel
theorem dX10_eliminated_208 : decode cX10_eliminated 208 = .ok (.iload_n 3, 1) := by decide +kernel
theorem dX10_eliminated_209 : decode cX10_eliminated 209 = .ok (.ireturn, 1) := by decide +kernel
theorem dX10_answered_0 : decode cX10_answered 0 = .ok (.iconst 0, 1) := by decide +kernel
theorem dX10_answered_1 : decode cX10_answered 1 = .ok (.istore_n 2, 1) := by decide +kernel
theorem dX10_answered_2 : decode cX10_answered 2 = .ok (.iload_n 2, 1) := by decide +kernel
theorem dX10_answered_3 : decode cX10_answered 3 = .ok (.aload_n 0, 1) := by decide +kernel
theorem dX10_answered_4 : decode cX10_answered 4 = .ok (.getfield 44, 3) := by decide +kernel
theorem dX10_answered_7 : decode cX10_answered 7 = .ok (.if_icmp .ge 17, 3) := by decide +kernel
theorem dX10_answered_10 : decode cX10_answered 10 = .ok (.aload_n 0, 1) := by decide +kernel
theorem dX10_answered_11 : decode cX10_answered 11 = .ok (.bipush 100, 2) := by decide +kernel
theorem dX10_answered_13 : decode cX10_answered 13 = .ok (.iload_n 2, 1) := by decide +kernel
theorem dX10_answered_14 : decode cX10_answered 14 = .ok (.iadd, 1) := by decide +kernel
theorem dX10_answered_15 : decode cX10_answered 15 = .ok (.invokevirtual 48, 3) := by decide +kernel
theorem dX10_answered_18 : decode cX10_answered 18 = .ok (.iinc 2 1, 3) := by decide +kernel
theorem dX10_answered_21 : decode cX10_answered 21 = .ok (.goto (-19), 3) := by decide +kernel
theorem dX10_answered_24 : decode cX10_answered 24 = .ok (.iload_n 1, 1) := by decide +kernel
theorem dX10_answered_25 : decode cX10_answered 25 = .ok (.iconst 1, 1) := by decide +kernel
theorem dX10_answered_26 : decode cX10_answered 26 = .ok (.isub, 1) := by decide +kernel
theorem dX10_answered_27 : decode cX10_answered 27 = .ok (.istore_n 2, 1) := by decide +kernel
theorem dX10_answered_28 : decode cX10_answered 28 = .ok (.iload_n 2, 1) := by decide +kernel
theorem dX10_answered_29 : decode cX10_answered 29 = .ok (.ifCond .lt 118, 3) := by decide +kernel
theorem dX10_answered_32 : decode cX10_answered 32 = .ok (.aload_n 0, 1) := by decide +kernel
theorem dX10_answered_33 : decode cX10_answered 33 = .ok (.getfield 26, 3) := by decide +kernel
theorem dX10_answered_36 : decode cX10_answered 36 = .ok (.iload_n 2, 1) := by decide +kernel
theorem dX10_answered_37 : decode cX10_answered 37 = .ok (.iaload, 1) := by decide +kernel
theorem dX10_answered_38 : decode cX10_answered 38 = .ok (.istore_n 3, 1) := by decide +kernel
theorem dX10_answered_39 : decode cX10_answered 39 = .ok (.aload_n 0, 1) := by decide +kernel
theorem dX10_answered_40 : decode cX10_answered 40 = .ok (.bipush 70, 2) := by decide +kernel
theorem dX10_answered_42 : decode cX10_answered 42 = .ok (.bipush 6, 2) := by decide +kernel
theorem dX10_answered_44 : decode cX10_answered 44 = .ok (.iload_n 2, 1) := by decide +kernel
theorem dX10_answered_45 : decode cX10_answered 45 = .ok (.imul, 1) := by decide +kernel
theorem dX10_answered_46 : decode cX10_answered 46 = .ok (.iadd, 1) := by decide +kernel
theorem dX10_answered_47 : decode cX10_answered 47 = .ok (.aload_n 0, 1) := by decide +kernel
theorem dX10_answered_48 : decode cX10_answered 48 = .ok (.getfield 44, 3) := by decide +kernel
theorem dX10_answered_51 : decode cX10_answered 51 = .ok (.iadd, 1) := by decide +kernel
theorem dX10_answered_52 : decode cX10_answered 52 = .ok (.bipush 108, 2) := by decide +kernel
theorem dX10_answered_54 : decode cX10_answered 54 = .ok (.invokevirtual 126, 3) := by decide +kernel
theorem dX10_answered_57 : decode cX10_answered 57 = .ok (.iload_n 3, 1) := by decide +kernel
theorem dX10_answered_58 : decode cX10_answered 58 = .ok (.iconst 1, 1) := by decide +kernel
theorem dX10_answered_59 : decode cX10_answered 59 = .ok (.iadd, 1) := by decide +kernel
theorem dX10_answered_60 : decode cX10_answered 60 = .ok (.istore 4, 2) := by decide +kernel
theorem dX10_answered_62 : decode cX10_answered 62 = .ok (.iload 4, 2) := by decide +kernel
theorem dX10_answered_64 : decode cX10_answered 64 = .ok (.aload_n 0, 1) := by decide +kernel
theorem dX10_answered_65 : decode cX10_answered 65 = .ok (.getfield 44, 3) := by decide +kernel
theorem dX10_answered_68 : decode cX10_answered 68 = .ok (.if_icmp .ge 49, 3) := by decide +kernel
theorem dX10_answered_71 : decode cX10_answered 71 = .ok (.aload_n 0, 1) := by decide +kernel
theorem dX10_answered_72 : decode cX10_answered 72 = .ok (.bipush 70, 2) := by decide +kernel
theorem dX10_answered_74 : decode cX10_answered 74 = .ok (.bipush 6, 2) := by decide +kernel
theorem dX10_answered_76 : decode cX10_answered 76 = .ok (.iload_n 2, 1) := by decide +kernel
theorem dX10_answered_77 : decode cX10_answered 77 = .ok (.imul, 1) := by decide +kernel
theorem dX10_answered_78 : decode cX10_answered 78 = .ok (.iadd, 1) := by decide +kernel
theorem dX10_answered_79 : decode cX10_answered 79 = .ok (.iload 4, 2) := by decide +kernel
theorem dX10_answered_81 : decode cX10_answered 81 = .ok (.iadd, 1) := by decide +kernel
theorem dX10_answered_82 : decode cX10_answered 82 = .ok (.bipush 100, 2) := by decide +kernel
theorem dX10_answered_84 : decode cX10_answered 84 = .ok (.iload 4, 2) := by decide +kernel
theorem dX10_answered_86 : decode cX10_answered 86 = .ok (.iadd, 1) := by decide +kernel
theorem dX10_answered_87 : decode cX10_answered 87 = .ok (.bipush 107, 2) := by decide +kernel
theorem dX10_answered_89 : decode cX10_answered 89 = .ok (.invokevirtual 144, 3) := by decide +kernel
theorem dX10_answered_92 : decode cX10_answered 92 = .ok (.ifCond .eq 17, 3) := by decide +kernel
theorem dX10_answered_95 : decode cX10_answered 95 = .ok (.aload_n 0, 1) := by decide +kernel
theorem dX10_answered_96 : decode cX10_answered 96 = .ok (.bipush 108, 2) := by decide +kernel
theorem dX10_answered_98 : decode cX10_answered 98 = .ok (.bipush 107, 2) := by decide +kernel
theorem dX10_answered_100 : decode cX10_answered 100 = .ok (.bipush 108, 2) := by decide +kernel
theorem dX10_answered_102 : decode cX10_answered 102 = .ok (.iconst 1, 1) := by decide +kernel
theorem dX10_answered_103 : decode cX10_answered 103 = .ok (.invokevirtual 140, 3) := by decide +kernel
theorem dX10_answered_106 : decode cX10_answered 106 = .ok (.ifCond .ne 5, 3) := by decide +kernel
theorem dX10_answered_109 : decode cX10_answered 109 = .ok (.iconst 0, 1) := by decide +kernel
theorem dX10_answered_110 : decode cX10_answered 110 = .ok (.ireturn, 1) := by decide +kernel
theorem dX10_answered_111 : decode cX10_answered 111 = .ok (.iinc 4 1, 3) := by decide +kernel
theorem dX10_answered_114 : decode cX10_answered 114 = .ok (.goto (-52), 3) := by decide +kernel
theorem dX10_answered_117 : decode cX10_answered 117 = .ok (.aload_n 0, 1) := by decide +kernel
theorem dX10_answered_118 : decode cX10_answered 118 = .ok (.bipush 108, 2) := by decide +kernel
theorem dX10_answered_120 : decode cX10_answered 120 = .ok (.bipush 70, 2) := by decide +kernel
theorem dX10_answered_122 : decode cX10_answered 122 = .ok (.bipush 6, 2) := by decide +kernel
theorem dX10_answered_124 : decode cX10_answered 124 = .ok (.iload_n 2, 1) := by decide +kernel
theorem dX10_answered_125 : decode cX10_answered 125 = .ok (.imul, 1) := by decide +kernel
theorem dX10_answered_126 : decode cX10_answered 126 = .ok (.iadd, 1) := by decide +kernel
theorem dX10_answered_127 : decode cX10_answered 127 = .ok (.iload_n 3, 1) := by decide +kernel
theorem dX10_answered_128 : decode cX10_answered 128 = .ok (.iadd, 1) := by decide +kernel
theorem dX10_answered_129 : decode cX10_answered 129 = .ok (.bipush 100, 2) := by decide +kernel
theorem dX10_answered_131 : decode cX10_answered 131 = .ok (.iload_n 3, 1) := by decide +kernel
theorem dX10_answered_132 : decode cX10_answered 132 = .ok (.iadd, 1) := by decide +kernel
theorem dX10_answered_133 : decode cX10_answered 133 = .ok (.invokevirtual 147, 3) := by decide +kernel
theorem dX10_answered_136 : decode cX10_answered 136 = .ok (.ifCond .ne 5, 3) := by decide +kernel
theorem dX10_answered_139 : decode cX10_answered 139 = .ok (.iconst 0, 1) := by decide +kernel
theorem dX10_answered_140 : decode cX10_answered 140 = .ok (.ireturn, 1) := by decide +kernel
theorem dX10_answered_141 : decode cX10_answered 141 = .ok (.iinc 2 (-1), 3) := by decide +kernel
theorem dX10_answered_144 : decode cX10_answered 144 = .ok (.goto (-116), 3) := by decide +kernel
theorem dX10_answered_147 : decode cX10_answered 147 = .ok (.iconst 1, 1) := by decide +kernel
theorem dX10_answered_148 : decode cX10_answered 148 = .ok (.ireturn, 1) := by decide +kernel
theorem dX10_solve_0 : decode cX10_solve 0 = .ok (.aload_n 0, 1) := by decide +kernel
theorem dX10_solve_1 : decode cX10_solve 1 = .ok (.iconst 0, 1) := by decide +kernel
theorem dX10_solve_2 : decode cX10_solve 2 = .ok (.putfield 52, 3) := by decide +kernel
theorem dX10_solve_5 : decode cX10_solve 5 = .ok (.iload_n 1, 1) := by decide +kernel
theorem dX10_solve_6 : decode cX10_solve 6 = .ok (.iconst 0, 1) := by decide +kernel
theorem dX10_solve_7 : decode cX10_solve 7 = .ok (.iconst 1, 1) := by decide +kernel
theorem dX10_solve_8 : decode cX10_solve 8 = .ok (.invokestatic 119, 3) := by decide +kernel
theorem dX10_solve_11 : decode cX10_solve 11 = .ok (.ifCond .ne 5, 3) := by decide +kernel
theorem dX10_solve_14 : decode cX10_solve 14 = .ok (.iconst (-1), 1) := by decide +kernel
theorem dX10_solve_15 : decode cX10_solve 15 = .ok (.ireturn, 1) := by decide +kernel
theorem dX10_solve_16 : decode cX10_solve 16 = .ok (.aload_n 0, 1) := by decide +kernel
theorem dX10_solve_17 : decode cX10_solve 17 = .ok (.iconst 0, 1) := by decide +kernel
theorem dX10_solve_18 : decode cX10_solve 18 = .ok (.putfield 180, 3) := by decide +kernel
theorem dX10_solve_21 : decode cX10_solve 21 = .ok (.aload_n 0, 1) := by decide +kernel
theorem dX10_solve_22 : decode cX10_solve 22 = .ok (.iload_n 1, 1) := by decide +kernel
theorem dX10_solve_23 : decode cX10_solve 23 = .ok (.aload_n 0, 1) := by decide +kernel
theorem dX10_solve_24 : decode cX10_solve 24 = .ok (.getfield 44, 3) := by decide +kernel
theorem dX10_solve_27 : decode cX10_solve 27 = .ok (.invokevirtual 183, 3) := by decide +kernel
theorem dX10_solve_30 : decode cX10_solve 30 = .ok (.istore_n 2, 1) := by decide +kernel
theorem dX10_solve_31 : decode cX10_solve 31 = .ok (.iload_n 2, 1) := by decide +kernel
theorem dX10_solve_32 : decode cX10_solve 32 = .ok (.bipush (-3), 2) := by decide +kernel
theorem dX10_solve_34 : decode cX10_solve 34 = .ok (.if_icmp .ne 8, 3) := by decide +kernel
theorem dX10_solve_37 : decode cX10_solve 37 = .ok (.aload_n 0, 1) := by decide +kernel
theorem dX10_solve_38 : decode cX10_solve 38 = .ok (.invokevirtual 153, 3) := by decide +kernel
theorem dX10_solve_41 : decode cX10_solve 41 = .ok (.ireturn, 1) := by decide +kernel
theorem dX10_solve_42 : decode cX10_solve 42 = .ok (.aload_n 0, 1) := by decide +kernel
theorem dX10_solve_43 : decode cX10_solve 43 = .ok (.iconst 0, 1) := by decide +kernel
theorem dX10_solve_44 : decode cX10_solve 44 = .ok (.putfield 186, 3) := by decide +kernel
theorem dX10_solve_47 : decode cX10_solve 47 = .ok (.iload_n 2, 1) := by decide +kernel
theorem dX10_solve_48 : decode cX10_solve 48 = .ok (.istore_n 3, 1) := by decide +kernel
theorem dX10_solve_49 : decode cX10_solve 49 = .ok (.iload_n 3, 1) := by decide +kernel
theorem dX10_solve_50 : decode cX10_solve 50 = .ok (.aload_n 0, 1) := by decide +kernel
theorem dX10_solve_51 : decode cX10_solve 51 = .ok (.getfield 44, 3) := by decide +kernel
theorem dX10_solve_54 : decode cX10_solve 54 = .ok (.if_icmp .ge 44, 3) := by decide +kernel
theorem dX10_solve_57 : decode cX10_solve 57 = .ok (.aload_n 0, 1) := by decide +kernel
theorem dX10_solve_58 : decode cX10_solve 58 = .ok (.aload_n 0, 1) := by decide +kernel
theorem dX10_solve_59 : decode cX10_solve 59 = .ok (.getfield 186, 3) := by decide +kernel
theorem dX10_solve_62 : decode cX10_solve 62 = .ok (.ifCond .ne 22, 3) := by decide +kernel
theorem dX10_solve_65 : decode cX10_solve 65 = .ok (.aload_n 0, 1) := by decide +kernel
theorem dX10_solve_66 : decode cX10_solve 66 = .ok (.bipush 70, 2) := by decide +kernel
theorem dX10_solve_68 : decode cX10_solve 68 = .ok (.bipush 6, 2) := by decide +kernel
theorem dX10_solve_70 : decode cX10_solve 70 = .ok (.iload_n 3, 1) := by decide +kernel
theorem dX10_solve_71 : decode cX10_solve 71 = .ok (.imul, 1) := by decide +kernel
theorem dX10_solve_72 : decode cX10_solve 72 = .ok (.iadd, 1) := by decide +kernel
theorem dX10_solve_73 : decode cX10_solve 73 = .ok (.aload_n 0, 1) := by decide +kernel
theorem dX10_solve_74 : decode cX10_solve 74 = .ok (.getfield 44, 3) := by decide +kernel
theorem dX10_solve_77 : decode cX10_solve 77 = .ok (.iadd, 1) := by decide +kernel
theorem dX10_solve_78 : decode cX10_solve 78 = .ok (.invokevirtual 92, 3) := by decide +kernel
theorem dX10_solve_81 : decode cX10_solve 81 = .ok (.ifCond .ne 7, 3) := by decide +kernel
theorem dX10_solve_84 : decode cX10_solve 84 = .ok (.iconst 1, 1) := by decide +kernel
theorem dX10_solve_85 : decode cX10_solve 85 = .ok (.goto 4, 3) := by decide +kernel
theorem dX10_solve_88 : decode cX10_solve 88 = .ok (.iconst 0, 1) := by decide +kernel
theorem dX10_solve_89 : decode cX10_solve 89 = .ok (.putfield 186, 3) := by decide +kernel
theorem dX10_solve_92 : decode cX10_solve 92 = .ok (.iinc 3 1, 3) := by decide +kernel
theorem dX10_solve_95 : decode cX10_solve 95 = .ok (.goto (-46), 3) := by decide +kernel
theorem dX10_solve_98 : decode cX10_solve 98 = .ok (.aload_n 0, 1) := by decide +kernel
theorem dX10_solve_99 : decode cX10_solve 99 = .ok (.getfield 186, 3) := by decide +kernel
theorem dX10_solve_102 : decode cX10_solve 102 = .ok (.ifCond .ne 16, 3) := by decide +kernel
theorem dX10_solve_105 : decode cX10_solve 105 = .ok (.aload_n 0, 1) := by decide +kernel
theorem dX10_solve_106 : decode cX10_solve 106 = .ok (.iload_n 2, 1) := by decide +kernel
theorem dX10_solve_107 : decode cX10_solve 107 = .ok (.invokevirtual 189, 3) := by decide +kernel
theorem dX10_solve_110 : decode cX10_solve 110 = .ok (.ifCond .ne 8, 3) := by decide +kernel
theorem dX10_solve_113 : decode cX10_solve 113 = .ok (.aload_n 0, 1) := by decide +kernel
theorem dX10_solve_114 : decode cX10_solve 114 = .ok (.invokevirtual 153, 3) := by decide +kernel
theorem dX10_solve_117 : decode cX10_solve 117 = .ok (.ireturn, 1) := by decide +kernel
theorem dX10_solve_118 : decode cX10_solve 118 = .ok (.iconst 0, 1) := by decide +kernel
theorem dX10_solve_119 : decode cX10_solve 119 = .ok (.istore_n 3, 1) := by decide +kernel
theorem dX10_solve_120 : decode cX10_solve 120 = .ok (.iload_n 3, 1) := by decide +kernel
theorem dX10_solve_121 : decode cX10_solve 121 = .ok (.iload_n 2, 1) := by decide +kernel
theorem dX10_solve_122 : decode cX10_solve 122 = .ok (.if_icmp .ge 45, 3) := by decide +kernel
theorem dX10_solve_125 : decode cX10_solve 125 = .ok (.aload_n 0, 1) := by decide +kernel
theorem dX10_solve_126 : decode cX10_solve 126 = .ok (.getfield 17, 3) := by decide +kernel
theorem dX10_solve_129 : decode cX10_solve 129 = .ok (.iload_n 3, 1) := by decide +kernel
theorem dX10_solve_130 : decode cX10_solve 130 = .ok (.aload_n 0, 1) := by decide +kernel
theorem dX10_solve_131 : decode cX10_solve 131 = .ok (.getfield 26, 3) := by decide +kernel
theorem dX10_solve_134 : decode cX10_solve 134 = .ok (.iload_n 3, 1) := by decide +kernel
theorem dX10_solve_135 : decode cX10_solve 135 = .ok (.iaload, 1) := by decide +kernel
theorem dX10_solve_136 : decode cX10_solve 136 = .ok (.iastore, 1) := by decide +kernel
theorem dX10_solve_137 : decode cX10_solve 137 = .ok (.aload_n 0, 1) := by decide +kernel
theorem dX10_solve_138 : decode cX10_solve 138 = .ok (.getfield 20, 3) := by decide +kernel
theorem dX10_solve_141 : decode cX10_solve 141 = .ok (.iload_n 3, 1) := by decide +kernel
theorem dX10_solve_142 : decode cX10_solve 142 = .ok (.aload_n 0, 1) := by decide +kernel
theorem dX10_solve_143 : decode cX10_solve 143 = .ok (.getfield 29, 3) := by decide +kernel
theorem dX10_solve_146 : decode cX10_solve 146 = .ok (.iload_n 3, 1) := by decide +kernel
theorem dX10_solve_147 : decode cX10_solve 147 = .ok (.iaload, 1) := by decide +kernel
theorem dX10_solve_148 : decode cX10_solve 148 = .ok (.iastore, 1) := by decide +kernel
theorem dX10_solve_149 : decode cX10_solve 149 = .ok (.aload_n 0, 1) := by decide +kernel
theorem dX10_solve_150 : decode cX10_solve 150 = .ok (.getfield 23, 3) := by decide +kernel
theorem dX10_solve_153 : decode cX10_solve 153 = .ok (.iload_n 3, 1) := by decide +kernel
theorem dX10_solve_154 : decode cX10_solve 154 = .ok (.aload_n 0, 1) := by decide +kernel
theorem dX10_solve_155 : decode cX10_solve 155 = .ok (.getfield 32, 3) := by decide +kernel
theorem dX10_solve_158 : decode cX10_solve 158 = .ok (.iload_n 3, 1) := by decide +kernel
theorem dX10_solve_159 : decode cX10_solve 159 = .ok (.iaload, 1) := by decide +kernel
theorem dX10_solve_160 : decode cX10_solve 160 = .ok (.iastore, 1) := by decide +kernel
theorem dX10_solve_161 : decode cX10_solve 161 = .ok (.iinc 3 1, 3) := by decide +kernel
theorem dX10_solve_164 : decode cX10_solve 164 = .ok (.goto (-44), 3) := by decide +kernel
theorem dX10_solve_167 : decode cX10_solve 167 = .ok (.aload_n 0, 1) := by decide +kernel
theorem dX10_solve_168 : decode cX10_solve 168 = .ok (.iload_n 2, 1) := by decide +kernel
theorem dX10_solve_169 : decode cX10_solve 169 = .ok (.putfield 192, 3) := by decide +kernel
theorem dX10_solve_172 : decode cX10_solve 172 = .ok (.aload_n 0, 1) := by decide +kernel
theorem dX10_solve_173 : decode cX10_solve 173 = .ok (.iconst 1, 1) := by decide +kernel
theorem dX10_solve_174 : decode cX10_solve 174 = .ok (.putfield 180, 3) := by decide +kernel
theorem dX10_solve_177 : decode cX10_solve 177 = .ok (.aload_n 0, 1) := by decide +kernel
theorem dX10_solve_178 : decode cX10_solve 178 = .ok (.getfield 192, 3) := by decide +kernel
theorem dX10_solve_181 : decode cX10_solve 181 = .ok (.ireturn, 1) := by decide +kernel
theorem dX10_answers_0 : decode cX10_answers 0 = .ok (.aload_n 0, 1) := by decide +kernel
theorem dX10_answers_1 : decode cX10_answers 1 = .ok (.iconst 0, 1) := by decide +kernel
theorem dX10_answers_2 : decode cX10_answers 2 = .ok (.putfield 52, 3) := by decide +kernel
theorem dX10_answers_5 : decode cX10_answers 5 = .ok (.aload_n 0, 1) := by decide +kernel
theorem dX10_answers_6 : decode cX10_answers 6 = .ok (.getfield 180, 3) := by decide +kernel
theorem dX10_answers_9 : decode cX10_answers 9 = .ok (.ifCond .ne 8, 3) := by decide +kernel
theorem dX10_answers_12 : decode cX10_answers 12 = .ok (.bipush (-5), 2) := by decide +kernel
theorem dX10_answers_14 : decode cX10_answers 14 = .ok (.goto 30, 3) := by decide +kernel
theorem dX10_answers_17 : decode cX10_answers 17 = .ok (.aload_n 0, 1) := by decide +kernel
theorem dX10_answers_18 : decode cX10_answers 18 = .ok (.getfield 186, 3) := by decide +kernel
theorem dX10_answers_21 : decode cX10_answers 21 = .ok (.ifCond .eq 7, 3) := by decide +kernel
theorem dX10_answers_24 : decode cX10_answers 24 = .ok (.iconst 0, 1) := by decide +kernel
theorem dX10_answers_25 : decode cX10_answers 25 = .ok (.goto 19, 3) := by decide +kernel
theorem dX10_answers_28 : decode cX10_answers 28 = .ok (.aload_n 0, 1) := by decide +kernel
theorem dX10_answers_29 : decode cX10_answers 29 = .ok (.getfield 192, 3) := by decide +kernel
theorem dX10_answers_32 : decode cX10_answers 32 = .ok (.aload_n 0, 1) := by decide +kernel
theorem dX10_answers_33 : decode cX10_answers 33 = .ok (.getfield 44, 3) := by decide +kernel
theorem dX10_answers_36 : decode cX10_answers 36 = .ok (.if_icmp .ne 7, 3) := by decide +kernel
theorem dX10_answers_39 : decode cX10_answers 39 = .ok (.iconst 1, 1) := by decide +kernel
theorem dX10_answers_40 : decode cX10_answers 40 = .ok (.goto 4, 3) := by decide +kernel
theorem dX10_answers_43 : decode cX10_answers 43 = .ok (.iconst 2, 1) := by decide +kernel
theorem dX10_answers_44 : decode cX10_answers 44 = .ok (.ireturn, 1) := by decide +kernel
theorem dX10_unknown_0 : decode cX10_unknown 0 = .ok (.aload_n 0, 1) := by decide +kernel
theorem dX10_unknown_1 : decode cX10_unknown 1 = .ok (.iconst 0, 1) := by decide +kernel
theorem dX10_unknown_2 : decode cX10_unknown 2 = .ok (.putfield 52, 3) := by decide +kernel
theorem dX10_unknown_5 : decode cX10_unknown 5 = .ok (.aload_n 0, 1) := by decide +kernel
theorem dX10_unknown_6 : decode cX10_unknown 6 = .ok (.getfield 180, 3) := by decide +kernel
theorem dX10_unknown_9 : decode cX10_unknown 9 = .ok (.ifCond .eq 10, 3) := by decide +kernel
theorem dX10_unknown_12 : decode cX10_unknown 12 = .ok (.aload_n 0, 1) := by decide +kernel
theorem dX10_unknown_13 : decode cX10_unknown 13 = .ok (.getfield 186, 3) := by decide +kernel
theorem dX10_unknown_16 : decode cX10_unknown 16 = .ok (.ifCond .eq 6, 3) := by decide +kernel
theorem dX10_unknown_19 : decode cX10_unknown 19 = .ok (.bipush (-5), 2) := by decide +kernel
theorem dX10_unknown_21 : decode cX10_unknown 21 = .ok (.ireturn, 1) := by decide +kernel
theorem dX10_unknown_22 : decode cX10_unknown 22 = .ok (.iload_n 1, 1) := by decide +kernel
theorem dX10_unknown_23 : decode cX10_unknown 23 = .ok (.iconst 0, 1) := by decide +kernel
theorem dX10_unknown_24 : decode cX10_unknown 24 = .ok (.aload_n 0, 1) := by decide +kernel
theorem dX10_unknown_25 : decode cX10_unknown 25 = .ok (.getfield 44, 3) := by decide +kernel
theorem dX10_unknown_28 : decode cX10_unknown 28 = .ok (.iconst 1, 1) := by decide +kernel
theorem dX10_unknown_29 : decode cX10_unknown 29 = .ok (.isub, 1) := by decide +kernel
theorem dX10_unknown_30 : decode cX10_unknown 30 = .ok (.invokestatic 119, 3) := by decide +kernel
theorem dX10_unknown_33 : decode cX10_unknown 33 = .ok (.ifCond .ne 5, 3) := by decide +kernel
theorem dX10_unknown_36 : decode cX10_unknown 36 = .ok (.iconst (-1), 1) := by decide +kernel
theorem dX10_unknown_37 : decode cX10_unknown 37 = .ok (.ireturn, 1) := by decide +kernel
theorem dX10_unknown_38 : decode cX10_unknown 38 = .ok (.aload_n 0, 1) := by decide +kernel
theorem dX10_unknown_39 : decode cX10_unknown 39 = .ok (.getfield 116, 3) := by decide +kernel
theorem dX10_unknown_42 : decode cX10_unknown 42 = .ok (.bipush 40, 2) := by decide +kernel
theorem dX10_unknown_44 : decode cX10_unknown 44 = .ok (.if_icmp .ne 8, 3) := by decide +kernel
theorem dX10_unknown_47 : decode cX10_unknown 47 = .ok (.bipush (-4), 2) := by decide +kernel
theorem dX10_unknown_49 : decode cX10_unknown 49 = .ok (.goto 11, 3) := by decide +kernel
theorem dX10_unknown_52 : decode cX10_unknown 52 = .ok (.aload_n 0, 1) := by decide +kernel
theorem dX10_unknown_53 : decode cX10_unknown 53 = .ok (.bipush 100, 2) := by decide +kernel
theorem dX10_unknown_55 : decode cX10_unknown 55 = .ok (.iload_n 1, 1) := by decide +kernel
theorem dX10_unknown_56 : decode cX10_unknown 56 = .ok (.iadd, 1) := by decide +kernel
theorem dX10_unknown_57 : decode cX10_unknown 57 = .ok (.invokevirtual 150, 3) := by decide +kernel
theorem dX10_unknown_60 : decode cX10_unknown 60 = .ok (.ireturn, 1) := by decide +kernel
theorem dX10_pivot_0 : decode cX10_pivot 0 = .ok (.aload_n 0, 1) := by decide +kernel
theorem dX10_pivot_1 : decode cX10_pivot 1 = .ok (.iconst 0, 1) := by decide +kernel
theorem dX10_pivot_2 : decode cX10_pivot 2 = .ok (.putfield 52, 3) := by decide +kernel
theorem dX10_pivot_5 : decode cX10_pivot 5 = .ok (.aload_n 0, 1) := by decide +kernel
theorem dX10_pivot_6 : decode cX10_pivot 6 = .ok (.getfield 180, 3) := by decide +kernel
theorem dX10_pivot_9 : decode cX10_pivot 9 = .ok (.ifCond .ne 6, 3) := by decide +kernel
theorem dX10_pivot_12 : decode cX10_pivot 12 = .ok (.bipush (-5), 2) := by decide +kernel
theorem dX10_pivot_14 : decode cX10_pivot 14 = .ok (.ireturn, 1) := by decide +kernel
theorem dX10_pivot_15 : decode cX10_pivot 15 = .ok (.iload_n 1, 1) := by decide +kernel
theorem dX10_pivot_16 : decode cX10_pivot 16 = .ok (.iconst 0, 1) := by decide +kernel
theorem dX10_pivot_17 : decode cX10_pivot 17 = .ok (.aload_n 0, 1) := by decide +kernel
theorem dX10_pivot_18 : decode cX10_pivot 18 = .ok (.getfield 192, 3) := by decide +kernel
theorem dX10_pivot_21 : decode cX10_pivot 21 = .ok (.iconst 1, 1) := by decide +kernel
theorem dX10_pivot_22 : decode cX10_pivot 22 = .ok (.isub, 1) := by decide +kernel
theorem dX10_pivot_23 : decode cX10_pivot 23 = .ok (.invokestatic 119, 3) := by decide +kernel
theorem dX10_pivot_26 : decode cX10_pivot 26 = .ok (.ifCond .eq 12, 3) := by decide +kernel
theorem dX10_pivot_29 : decode cX10_pivot 29 = .ok (.iload_n 2, 1) := by decide +kernel
theorem dX10_pivot_30 : decode cX10_pivot 30 = .ok (.iconst 0, 1) := by decide +kernel
theorem dX10_pivot_31 : decode cX10_pivot 31 = .ok (.iconst 2, 1) := by decide +kernel
theorem dX10_pivot_32 : decode cX10_pivot 32 = .ok (.invokestatic 119, 3) := by decide +kernel
theorem dX10_pivot_35 : decode cX10_pivot 35 = .ok (.ifCond .ne 5, 3) := by decide +kernel
theorem dX10_pivot_38 : decode cX10_pivot 38 = .ok (.iconst (-1), 1) := by decide +kernel
theorem dX10_pivot_39 : decode cX10_pivot 39 = .ok (.ireturn, 1) := by decide +kernel
theorem dX10_pivot_40 : decode cX10_pivot 40 = .ok (.iload_n 2, 1) := by decide +kernel
theorem dX10_pivot_41 : decode cX10_pivot 41 = .ok (.ifCond .ne 12, 3) := by decide +kernel
theorem dX10_pivot_44 : decode cX10_pivot 44 = .ok (.aload_n 0, 1) := by decide +kernel
theorem dX10_pivot_45 : decode cX10_pivot 45 = .ok (.getfield 17, 3) := by decide +kernel
theorem dX10_pivot_48 : decode cX10_pivot 48 = .ok (.iload_n 1, 1) := by decide +kernel
theorem dX10_pivot_49 : decode cX10_pivot 49 = .ok (.iaload, 1) := by decide +kernel
theorem dX10_pivot_50 : decode cX10_pivot 50 = .ok (.goto 23, 3) := by decide +kernel
theorem dX10_pivot_53 : decode cX10_pivot 53 = .ok (.iload_n 2, 1) := by decide +kernel
theorem dX10_pivot_54 : decode cX10_pivot 54 = .ok (.iconst 1, 1) := by decide +kernel
theorem dX10_pivot_55 : decode cX10_pivot 55 = .ok (.if_icmp .ne 12, 3) := by decide +kernel
theorem dX10_pivot_58 : decode cX10_pivot 58 = .ok (.aload_n 0, 1) := by decide +kernel
theorem dX10_pivot_59 : decode cX10_pivot 59 = .ok (.getfield 20, 3) := by decide +kernel
theorem dX10_pivot_62 : decode cX10_pivot 62 = .ok (.iload_n 1, 1) := by decide +kernel
theorem dX10_pivot_63 : decode cX10_pivot 63 = .ok (.iaload, 1) := by decide +kernel
theorem dX10_pivot_64 : decode cX10_pivot 64 = .ok (.goto 9, 3) := by decide +kernel
theorem dX10_pivot_67 : decode cX10_pivot 67 = .ok (.aload_n 0, 1) := by decide +kernel
theorem dX10_pivot_68 : decode cX10_pivot 68 = .ok (.getfield 23, 3) := by decide +kernel
theorem dX10_pivot_71 : decode cX10_pivot 71 = .ok (.iload_n 1, 1) := by decide +kernel
theorem dX10_pivot_72 : decode cX10_pivot 72 = .ok (.iaload, 1) := by decide +kernel
theorem dX10_pivot_73 : decode cX10_pivot 73 = .ok (.ireturn, 1) := by decide +kernel
theorem dX10_holds_0 : decode cX10_holds 0 = .ok (.aload_n 0, 1) := by decide +kernel
theorem dX10_holds_1 : decode cX10_holds 1 = .ok (.iconst 0, 1) := by decide +kernel
theorem dX10_holds_2 : decode cX10_holds 2 = .ok (.putfield 52, 3) := by decide +kernel
theorem dX10_holds_5 : decode cX10_holds 5 = .ok (.aload_n 0, 1) := by decide +kernel
theorem dX10_holds_6 : decode cX10_holds 6 = .ok (.getfield 180, 3) := by decide +kernel
theorem dX10_holds_9 : decode cX10_holds 9 = .ok (.ifCond .eq 10, 3) := by decide +kernel
theorem dX10_holds_12 : decode cX10_holds 12 = .ok (.aload_n 0, 1) := by decide +kernel
theorem dX10_holds_13 : decode cX10_holds 13 = .ok (.getfield 186, 3) := by decide +kernel
theorem dX10_holds_16 : decode cX10_holds 16 = .ok (.ifCond .eq 6, 3) := by decide +kernel
theorem dX10_holds_19 : decode cX10_holds 19 = .ok (.bipush (-5), 2) := by decide +kernel
theorem dX10_holds_21 : decode cX10_holds 21 = .ok (.ireturn, 1) := by decide +kernel
theorem dX10_holds_22 : decode cX10_holds 22 = .ok (.iload_n 1, 1) := by decide +kernel
theorem dX10_holds_23 : decode cX10_holds 23 = .ok (.iconst 0, 1) := by decide +kernel
theorem dX10_holds_24 : decode cX10_holds 24 = .ok (.aload_n 0, 1) := by decide +kernel
theorem dX10_holds_25 : decode cX10_holds 25 = .ok (.getfield 44, 3) := by decide +kernel
theorem dX10_holds_28 : decode cX10_holds 28 = .ok (.iconst 1, 1) := by decide +kernel
theorem dX10_holds_29 : decode cX10_holds 29 = .ok (.isub, 1) := by decide +kernel
theorem dX10_holds_30 : decode cX10_holds 30 = .ok (.invokestatic 119, 3) := by decide +kernel
theorem dX10_holds_33 : decode cX10_holds 33 = .ok (.ifCond .ne 5, 3) := by decide +kernel
theorem dX10_holds_36 : decode cX10_holds 36 = .ok (.iconst (-1), 1) := by decide +kernel
theorem dX10_holds_37 : decode cX10_holds 37 = .ok (.ireturn, 1) := by decide +kernel
theorem dX10_holds_38 : decode cX10_holds 38 = .ok (.aload_n 0, 1) := by decide +kernel
theorem dX10_holds_39 : decode cX10_holds 39 = .ok (.bipush 108, 2) := by decide +kernel
theorem dX10_holds_41 : decode cX10_holds 41 = .ok (.invokevirtual 48, 3) := by decide +kernel
theorem dX10_holds_44 : decode cX10_holds 44 = .ok (.iconst 0, 1) := by decide +kernel
theorem dX10_holds_45 : decode cX10_holds 45 = .ok (.istore_n 2, 1) := by decide +kernel
theorem dX10_holds_46 : decode cX10_holds 46 = .ok (.iload_n 2, 1) := by decide +kernel
theorem dX10_holds_47 : decode cX10_holds 47 = .ok (.aload_n 0, 1) := by decide +kernel
theorem dX10_holds_48 : decode cX10_holds 48 = .ok (.getfield 44, 3) := by decide +kernel
theorem dX10_holds_51 : decode cX10_holds 51 = .ok (.if_icmp .ge 50, 3) := by decide +kernel
theorem dX10_holds_54 : decode cX10_holds 54 = .ok (.aload_n 0, 1) := by decide +kernel
theorem dX10_holds_55 : decode cX10_holds 55 = .ok (.bipush 40, 2) := by decide +kernel
theorem dX10_holds_57 : decode cX10_holds 57 = .ok (.bipush 6, 2) := by decide +kernel
theorem dX10_holds_59 : decode cX10_holds 59 = .ok (.iload_n 1, 1) := by decide +kernel
theorem dX10_holds_60 : decode cX10_holds 60 = .ok (.imul, 1) := by decide +kernel
theorem dX10_holds_61 : decode cX10_holds 61 = .ok (.iadd, 1) := by decide +kernel
theorem dX10_holds_62 : decode cX10_holds 62 = .ok (.iload_n 2, 1) := by decide +kernel
theorem dX10_holds_63 : decode cX10_holds 63 = .ok (.iadd, 1) := by decide +kernel
theorem dX10_holds_64 : decode cX10_holds 64 = .ok (.bipush 100, 2) := by decide +kernel
theorem dX10_holds_66 : decode cX10_holds 66 = .ok (.iload_n 2, 1) := by decide +kernel
theorem dX10_holds_67 : decode cX10_holds 67 = .ok (.iadd, 1) := by decide +kernel
theorem dX10_holds_68 : decode cX10_holds 68 = .ok (.bipush 107, 2) := by decide +kernel
theorem dX10_holds_70 : decode cX10_holds 70 = .ok (.invokevirtual 144, 3) := by decide +kernel
theorem dX10_holds_73 : decode cX10_holds 73 = .ok (.ifCond .eq 17, 3) := by decide +kernel
theorem dX10_holds_76 : decode cX10_holds 76 = .ok (.aload_n 0, 1) := by decide +kernel
theorem dX10_holds_77 : decode cX10_holds 77 = .ok (.bipush 108, 2) := by decide +kernel
theorem dX10_holds_79 : decode cX10_holds 79 = .ok (.bipush 107, 2) := by decide +kernel
theorem dX10_holds_81 : decode cX10_holds 81 = .ok (.bipush 108, 2) := by decide +kernel
theorem dX10_holds_83 : decode cX10_holds 83 = .ok (.iconst 0, 1) := by decide +kernel
theorem dX10_holds_84 : decode cX10_holds 84 = .ok (.invokevirtual 140, 3) := by decide +kernel
theorem dX10_holds_87 : decode cX10_holds 87 = .ok (.ifCond .ne 8, 3) := by decide +kernel
theorem dX10_holds_90 : decode cX10_holds 90 = .ok (.aload_n 0, 1) := by decide +kernel
theorem dX10_holds_91 : decode cX10_holds 91 = .ok (.invokevirtual 153, 3) := by decide +kernel
theorem dX10_holds_94 : decode cX10_holds 94 = .ok (.ireturn, 1) := by decide +kernel
theorem dX10_holds_95 : decode cX10_holds 95 = .ok (.iinc 2 1, 3) := by decide +kernel
theorem dX10_holds_98 : decode cX10_holds 98 = .ok (.goto (-52), 3) := by decide +kernel
theorem dX10_holds_101 : decode cX10_holds 101 = .ok (.bipush 40, 2) := by decide +kernel
theorem dX10_holds_103 : decode cX10_holds 103 = .ok (.bipush 6, 2) := by decide +kernel
theorem dX10_holds_105 : decode cX10_holds 105 = .ok (.iload_n 1, 1) := by decide +kernel
theorem dX10_holds_106 : decode cX10_holds 106 = .ok (.imul, 1) := by decide +kernel
theorem dX10_holds_107 : decode cX10_holds 107 = .ok (.iadd, 1) := by decide +kernel
theorem dX10_holds_108 : decode cX10_holds 108 = .ok (.aload_n 0, 1) := by decide +kernel
theorem dX10_holds_109 : decode cX10_holds 109 = .ok (.getfield 44, 3) := by decide +kernel
theorem dX10_holds_112 : decode cX10_holds 112 = .ok (.iadd, 1) := by decide +kernel
theorem dX10_holds_113 : decode cX10_holds 113 = .ok (.istore_n 2, 1) := by decide +kernel
theorem dX10_holds_114 : decode cX10_holds 114 = .ok (.aload_n 0, 1) := by decide +kernel
theorem dX10_holds_115 : decode cX10_holds 115 = .ok (.getfield 13, 3) := by decide +kernel
theorem dX10_holds_118 : decode cX10_holds 118 = .ok (.iload_n 2, 1) := by decide +kernel
theorem dX10_holds_119 : decode cX10_holds 119 = .ok (.baload, 1) := by decide +kernel
theorem dX10_holds_120 : decode cX10_holds 120 = .ok (.aload_n 0, 1) := by decide +kernel
theorem dX10_holds_121 : decode cX10_holds 121 = .ok (.getfield 13, 3) := by decide +kernel
theorem dX10_holds_124 : decode cX10_holds 124 = .ok (.bipush 108, 2) := by decide +kernel
theorem dX10_holds_126 : decode cX10_holds 126 = .ok (.baload, 1) := by decide +kernel
theorem dX10_holds_127 : decode cX10_holds 127 = .ok (.if_icmp .ne 35, 3) := by decide +kernel
theorem dX10_holds_130 : decode cX10_holds 130 = .ok (.aload_n 0, 1) := by decide +kernel
theorem dX10_holds_131 : decode cX10_holds 131 = .ok (.iconst 2, 1) := by decide +kernel
theorem dX10_holds_132 : decode cX10_holds 132 = .ok (.iload_n 2, 1) := by decide +kernel
theorem dX10_holds_133 : decode cX10_holds 133 = .ok (.imul, 1) := by decide +kernel
theorem dX10_holds_134 : decode cX10_holds 134 = .ok (.sipush 216, 3) := by decide +kernel
theorem dX10_holds_137 : decode cX10_holds 137 = .ok (.invokevirtual 76, 3) := by decide +kernel
theorem dX10_holds_140 : decode cX10_holds 140 = .ok (.ifCond .ne 22, 3) := by decide +kernel
theorem dX10_holds_143 : decode cX10_holds 143 = .ok (.aload_n 0, 1) := by decide +kernel
theorem dX10_holds_144 : decode cX10_holds 144 = .ok (.iconst 2, 1) := by decide +kernel
theorem dX10_holds_145 : decode cX10_holds 145 = .ok (.iload_n 2, 1) := by decide +kernel
theorem dX10_holds_146 : decode cX10_holds 146 = .ok (.imul, 1) := by decide +kernel
theorem dX10_holds_147 : decode cX10_holds 147 = .ok (.iconst 1, 1) := by decide +kernel
theorem dX10_holds_148 : decode cX10_holds 148 = .ok (.iadd, 1) := by decide +kernel
theorem dX10_holds_149 : decode cX10_holds 149 = .ok (.sipush 217, 3) := by decide +kernel
theorem dX10_holds_152 : decode cX10_holds 152 = .ok (.invokevirtual 76, 3) := by decide +kernel
theorem dX10_holds_155 : decode cX10_holds 155 = .ok (.ifCond .ne 7, 3) := by decide +kernel
theorem dX10_holds_158 : decode cX10_holds 158 = .ok (.iconst 1, 1) := by decide +kernel
theorem dX10_holds_159 : decode cX10_holds 159 = .ok (.goto 4, 3) := by decide +kernel
theorem dX10_holds_162 : decode cX10_holds 162 = .ok (.iconst 0, 1) := by decide +kernel
theorem dX10_holds_163 : decode cX10_holds 163 = .ok (.ireturn, 1) := by decide +kernel
theorem dX10_determinant_0 : decode cX10_determinant 0 = .ok (.aload_n 0, 1) := by decide +kernel
theorem dX10_determinant_1 : decode cX10_determinant 1 = .ok (.iconst 0, 1) := by decide +kernel
theorem dX10_determinant_2 : decode cX10_determinant 2 = .ok (.putfield 52, 3) := by decide +kernel
theorem dX10_determinant_5 : decode cX10_determinant 5 = .ok (.iload_n 1, 1) := by decide +kernel
theorem dX10_determinant_6 : decode cX10_determinant 6 = .ok (.iconst 0, 1) := by decide +kernel
theorem dX10_determinant_7 : decode cX10_determinant 7 = .ok (.iconst 2, 1) := by decide +kernel
theorem dX10_determinant_8 : decode cX10_determinant 8 = .ok (.invokestatic 119, 3) := by decide +kernel
theorem dX10_determinant_11 : decode cX10_determinant 11 = .ok (.ifCond .ne 5, 3) := by decide +kernel
theorem dX10_determinant_14 : decode cX10_determinant 14 = .ok (.iconst (-1), 1) := by decide +kernel
theorem dX10_determinant_15 : decode cX10_determinant 15 = .ok (.ireturn, 1) := by decide +kernel
theorem dX10_determinant_16 : decode cX10_determinant 16 = .ok (.aload_n 0, 1) := by decide +kernel
theorem dX10_determinant_17 : decode cX10_determinant 17 = .ok (.getfield 116, 3) := by decide +kernel
theorem dX10_determinant_20 : decode cX10_determinant 20 = .ok (.bipush 40, 2) := by decide +kernel
theorem dX10_determinant_22 : decode cX10_determinant 22 = .ok (.if_icmp .ne 6, 3) := by decide +kernel
theorem dX10_determinant_25 : decode cX10_determinant 25 = .ok (.bipush (-4), 2) := by decide +kernel
theorem dX10_determinant_27 : decode cX10_determinant 27 = .ok (.ireturn, 1) := by decide +kernel
theorem dX10_determinant_28 : decode cX10_determinant 28 = .ok (.iload_n 1, 1) := by decide +kernel
theorem dX10_determinant_29 : decode cX10_determinant 29 = .ok (.iconst 2, 1) := by decide +kernel
theorem dX10_determinant_30 : decode cX10_determinant 30 = .ok (.if_icmp .ne 10, 3) := by decide +kernel
theorem dX10_determinant_33 : decode cX10_determinant 33 = .ok (.aload_n 0, 1) := by decide +kernel
theorem dX10_determinant_34 : decode cX10_determinant 34 = .ok (.invokevirtual 195, 3) := by decide +kernel
theorem dX10_determinant_37 : decode cX10_determinant 37 = .ok (.goto 8, 3) := by decide +kernel
theorem dX10_determinant_40 : decode cX10_determinant 40 = .ok (.aload_n 0, 1) := by decide +kernel
theorem dX10_determinant_41 : decode cX10_determinant 41 = .ok (.iload_n 1, 1) := by decide +kernel
theorem dX10_determinant_42 : decode cX10_determinant 42 = .ok (.invokevirtual 199, 3) := by decide +kernel
theorem dX10_determinant_45 : decode cX10_determinant 45 = .ok (.istore_n 2, 1) := by decide +kernel
theorem dX10_determinant_46 : decode cX10_determinant 46 = .ok (.iload_n 2, 1) := by decide +kernel
theorem dX10_determinant_47 : decode cX10_determinant 47 = .ok (.ifCond .eq 12, 3) := by decide +kernel
theorem dX10_determinant_50 : decode cX10_determinant 50 = .ok (.aload_n 0, 1) := by decide +kernel
theorem dX10_determinant_51 : decode cX10_determinant 51 = .ok (.bipush 105, 2) := by decide +kernel
theorem dX10_determinant_53 : decode cX10_determinant 53 = .ok (.invokevirtual 150, 3) := by decide +kernel
theorem dX10_determinant_56 : decode cX10_determinant 56 = .ok (.goto 7, 3) := by decide +kernel
theorem dX10_determinant_59 : decode cX10_determinant 59 = .ok (.aload_n 0, 1) := by decide +kernel
theorem dX10_determinant_60 : decode cX10_determinant 60 = .ok (.invokevirtual 153, 3) := by decide +kernel
theorem dX10_determinant_63 : decode cX10_determinant 63 = .ok (.ireturn, 1) := by decide +kernel
theorem dX10_byPivots_0 : decode cX10_byPivots 0 = .ok (.aload_n 0, 1) := by decide +kernel
theorem dX10_byPivots_1 : decode cX10_byPivots 1 = .ok (.iload_n 1, 1) := by decide +kernel
theorem dX10_byPivots_2 : decode cX10_byPivots 2 = .ok (.aload_n 0, 1) := by decide +kernel
theorem dX10_byPivots_3 : decode cX10_byPivots 3 = .ok (.getfield 44, 3) := by decide +kernel
theorem dX10_byPivots_6 : decode cX10_byPivots 6 = .ok (.iconst 1, 1) := by decide +kernel
theorem dX10_byPivots_7 : decode cX10_byPivots 7 = .ok (.isub, 1) := by decide +kernel
theorem dX10_byPivots_8 : decode cX10_byPivots 8 = .ok (.invokevirtual 183, 3) := by decide +kernel
theorem dX10_byPivots_11 : decode cX10_byPivots 11 = .ok (.istore_n 2, 1) := by decide +kernel
theorem dX10_byPivots_12 : decode cX10_byPivots 12 = .ok (.iload_n 2, 1) := by decide +kernel
theorem dX10_byPivots_13 : decode cX10_byPivots 13 = .ok (.bipush (-3), 2) := by decide +kernel
theorem dX10_byPivots_15 : decode cX10_byPivots 15 = .ok (.if_icmp .ne 5, 3) := by decide +kernel
theorem dX10_byPivots_18 : decode cX10_byPivots 18 = .ok (.iconst 0, 1) := by decide +kernel
theorem dX10_byPivots_19 : decode cX10_byPivots 19 = .ok (.ireturn, 1) := by decide +kernel
theorem dX10_byPivots_20 : decode cX10_byPivots 20 = .ok (.aload_n 0, 1) := by decide +kernel
theorem dX10_byPivots_21 : decode cX10_byPivots 21 = .ok (.getfield 167, 3) := by decide +kernel
theorem dX10_byPivots_24 : decode cX10_byPivots 24 = .ok (.ifCond .eq 11, 3) := by decide +kernel
theorem dX10_byPivots_27 : decode cX10_byPivots 27 = .ok (.aload_n 0, 1) := by decide +kernel
theorem dX10_byPivots_28 : decode cX10_byPivots 28 = .ok (.bipush 105, 2) := by decide +kernel
theorem dX10_byPivots_30 : decode cX10_byPivots 30 = .ok (.invokevirtual 48, 3) := by decide +kernel
theorem dX10_byPivots_33 : decode cX10_byPivots 33 = .ok (.iconst 1, 1) := by decide +kernel
theorem dX10_byPivots_34 : decode cX10_byPivots 34 = .ok (.ireturn, 1) := by decide +kernel
theorem dX10_byPivots_35 : decode cX10_byPivots 35 = .ok (.aload_n 0, 1) := by decide +kernel
theorem dX10_byPivots_36 : decode cX10_byPivots 36 = .ok (.bipush 70, 2) := by decide +kernel
theorem dX10_byPivots_38 : decode cX10_byPivots 38 = .ok (.bipush 105, 2) := by decide +kernel
theorem dX10_byPivots_40 : decode cX10_byPivots 40 = .ok (.invokevirtual 126, 3) := by decide +kernel
theorem dX10_byPivots_43 : decode cX10_byPivots 43 = .ok (.iconst 1, 1) := by decide +kernel
theorem dX10_byPivots_44 : decode cX10_byPivots 44 = .ok (.istore_n 3, 1) := by decide +kernel
theorem dX10_byPivots_45 : decode cX10_byPivots 45 = .ok (.iload_n 3, 1) := by decide +kernel
theorem dX10_byPivots_46 : decode cX10_byPivots 46 = .ok (.aload_n 0, 1) := by decide +kernel
theorem dX10_byPivots_47 : decode cX10_byPivots 47 = .ok (.getfield 44, 3) := by decide +kernel
theorem dX10_byPivots_50 : decode cX10_byPivots 50 = .ok (.if_icmp .ge 29, 3) := by decide +kernel
theorem dX10_byPivots_53 : decode cX10_byPivots 53 = .ok (.aload_n 0, 1) := by decide +kernel
theorem dX10_byPivots_54 : decode cX10_byPivots 54 = .ok (.bipush 105, 2) := by decide +kernel
theorem dX10_byPivots_56 : decode cX10_byPivots 56 = .ok (.bipush 70, 2) := by decide +kernel
theorem dX10_byPivots_58 : decode cX10_byPivots 58 = .ok (.bipush 7, 2) := by decide +kernel
theorem dX10_byPivots_60 : decode cX10_byPivots 60 = .ok (.iload_n 3, 1) := by decide +kernel
theorem dX10_byPivots_61 : decode cX10_byPivots 61 = .ok (.imul, 1) := by decide +kernel
theorem dX10_byPivots_62 : decode cX10_byPivots 62 = .ok (.iadd, 1) := by decide +kernel
theorem dX10_byPivots_63 : decode cX10_byPivots 63 = .ok (.bipush 105, 2) := by decide +kernel
theorem dX10_byPivots_65 : decode cX10_byPivots 65 = .ok (.invokevirtual 144, 3) := by decide +kernel
theorem dX10_byPivots_68 : decode cX10_byPivots 68 = .ok (.ifCond .ne 5, 3) := by decide +kernel
theorem dX10_byPivots_71 : decode cX10_byPivots 71 = .ok (.iconst 0, 1) := by decide +kernel
theorem dX10_byPivots_72 : decode cX10_byPivots 72 = .ok (.ireturn, 1) := by decide +kernel
theorem dX10_byPivots_73 : decode cX10_byPivots 73 = .ok (.iinc 3 1, 3) := by decide +kernel
theorem dX10_byPivots_76 : decode cX10_byPivots 76 = .ok (.goto (-31), 3) := by decide +kernel
theorem dX10_byPivots_79 : decode cX10_byPivots 79 = .ok (.aload_n 0, 1) := by decide +kernel
theorem dX10_byPivots_80 : decode cX10_byPivots 80 = .ok (.getfield 13, 3) := by decide +kernel
theorem dX10_byPivots_83 : decode cX10_byPivots 83 = .ok (.bipush 105, 2) := by decide +kernel
theorem dX10_byPivots_85 : decode cX10_byPivots 85 = .ok (.aload_n 0, 1) := by decide +kernel
theorem dX10_byPivots_86 : decode cX10_byPivots 86 = .ok (.getfield 13, 3) := by decide +kernel
theorem dX10_byPivots_89 : decode cX10_byPivots 89 = .ok (.bipush 105, 2) := by decide +kernel
theorem dX10_byPivots_91 : decode cX10_byPivots 91 = .ok (.baload, 1) := by decide +kernel
theorem dX10_byPivots_92 : decode cX10_byPivots 92 = .ok (.aload_n 0, 1) := by decide +kernel
theorem dX10_byPivots_93 : decode cX10_byPivots 93 = .ok (.getfield 163, 3) := by decide +kernel
theorem dX10_byPivots_96 : decode cX10_byPivots 96 = .ok (.if_icmp .eq 7, 3) := by decide +kernel
theorem dX10_byPivots_99 : decode cX10_byPivots 99 = .ok (.iconst 1, 1) := by decide +kernel
theorem dX10_byPivots_100 : decode cX10_byPivots 100 = .ok (.goto 4, 3) := by decide +kernel
theorem dX10_byPivots_103 : decode cX10_byPivots 103 = .ok (.iconst 0, 1) := by decide +kernel
theorem dX10_byPivots_104 : decode cX10_byPivots 104 = .ok (.bastore, 1) := by decide +kernel
theorem dX10_byPivots_105 : decode cX10_byPivots 105 = .ok (.iconst 1, 1) := by decide +kernel
theorem dX10_byPivots_106 : decode cX10_byPivots 106 = .ok (.ireturn, 1) := by decide +kernel
theorem dX10_byOrders_0 : decode cX10_byOrders 0 = .ok (.iconst 0, 1) := by decide +kernel
theorem dX10_byOrders_1 : decode cX10_byOrders 1 = .ok (.istore_n 1, 1) := by decide +kernel
theorem dX10_byOrders_2 : decode cX10_byOrders 2 = .ok (.iload_n 1, 1) := by decide +kernel
theorem dX10_byOrders_3 : decode cX10_byOrders 3 = .ok (.aload_n 0, 1) := by decide +kernel
theorem dX10_byOrders_4 : decode cX10_byOrders 4 = .ok (.getfield 44, 3) := by decide +kernel
theorem dX10_byOrders_7 : decode cX10_byOrders 7 = .ok (.if_icmp .ge 16, 3) := by decide +kernel
theorem dX10_byOrders_10 : decode cX10_byOrders 10 = .ok (.aload_n 0, 1) := by decide +kernel
theorem dX10_byOrders_11 : decode cX10_byOrders 11 = .ok (.getfield 35, 3) := by decide +kernel
theorem dX10_byOrders_14 : decode cX10_byOrders 14 = .ok (.iload_n 1, 1) := by decide +kernel
theorem dX10_byOrders_15 : decode cX10_byOrders 15 = .ok (.iload_n 1, 1) := by decide +kernel
theorem dX10_byOrders_16 : decode cX10_byOrders 16 = .ok (.iastore, 1) := by decide +kernel
theorem dX10_byOrders_17 : decode cX10_byOrders 17 = .ok (.iinc 1 1, 3) := by decide +kernel
theorem dX10_byOrders_20 : decode cX10_byOrders 20 = .ok (.goto (-18), 3) := by decide +kernel
theorem dX10_byOrders_23 : decode cX10_byOrders 23 = .ok (.aload_n 0, 1) := by decide +kernel
theorem dX10_byOrders_24 : decode cX10_byOrders 24 = .ok (.bipush 108, 2) := by decide +kernel
theorem dX10_byOrders_26 : decode cX10_byOrders 26 = .ok (.invokevirtual 48, 3) := by decide +kernel
theorem dX10_byOrders_29 : decode cX10_byOrders 29 = .ok (.iconst 1, 1) := by decide +kernel
theorem dX10_byOrders_30 : decode cX10_byOrders 30 = .ok (.istore_n 1, 1) := by decide +kernel
theorem dX10_byOrders_31 : decode cX10_byOrders 31 = .ok (.iload_n 1, 1) := by decide +kernel
theorem dX10_byOrders_32 : decode cX10_byOrders 32 = .ok (.ifCond .eq 73, 3) := by decide +kernel
theorem dX10_byOrders_35 : decode cX10_byOrders 35 = .ok (.iconst 1, 1) := by decide +kernel
theorem dX10_byOrders_36 : decode cX10_byOrders 36 = .ok (.istore_n 2, 1) := by decide +kernel
theorem dX10_byOrders_37 : decode cX10_byOrders 37 = .ok (.iconst 0, 1) := by decide +kernel
theorem dX10_byOrders_38 : decode cX10_byOrders 38 = .ok (.istore_n 3, 1) := by decide +kernel
theorem dX10_byOrders_39 : decode cX10_byOrders 39 = .ok (.iload_n 3, 1) := by decide +kernel
theorem dX10_byOrders_40 : decode cX10_byOrders 40 = .ok (.aload_n 0, 1) := by decide +kernel
theorem dX10_byOrders_41 : decode cX10_byOrders 41 = .ok (.getfield 44, 3) := by decide +kernel
theorem dX10_byOrders_44 : decode cX10_byOrders 44 = .ok (.if_icmp .ge 40, 3) := by decide +kernel
theorem dX10_byOrders_47 : decode cX10_byOrders 47 = .ok (.iload_n 2, 1) := by decide +kernel
theorem dX10_byOrders_48 : decode cX10_byOrders 48 = .ok (.ifCond .eq 28, 3) := by decide +kernel
theorem dX10_byOrders_51 : decode cX10_byOrders 51 = .ok (.aload_n 0, 1) := by decide +kernel
theorem dX10_byOrders_52 : decode cX10_byOrders 52 = .ok (.bipush 40, 2) := by decide +kernel
theorem dX10_byOrders_54 : decode cX10_byOrders 54 = .ok (.bipush 6, 2) := by decide +kernel
theorem dX10_byOrders_56 : decode cX10_byOrders 56 = .ok (.iload_n 3, 1) := by decide +kernel
theorem dX10_byOrders_57 : decode cX10_byOrders 57 = .ok (.imul, 1) := by decide +kernel
theorem dX10_byOrders_58 : decode cX10_byOrders 58 = .ok (.iadd, 1) := by decide +kernel
theorem dX10_byOrders_59 : decode cX10_byOrders 59 = .ok (.aload_n 0, 1) := by decide +kernel
theorem dX10_byOrders_60 : decode cX10_byOrders 60 = .ok (.getfield 35, 3) := by decide +kernel
theorem dX10_byOrders_63 : decode cX10_byOrders 63 = .ok (.iload_n 3, 1) := by decide +kernel
theorem dX10_byOrders_64 : decode cX10_byOrders 64 = .ok (.iaload, 1) := by decide +kernel
theorem dX10_byOrders_65 : decode cX10_byOrders 65 = .ok (.iadd, 1) := by decide +kernel
theorem dX10_byOrders_66 : decode cX10_byOrders 66 = .ok (.invokevirtual 92, 3) := by decide +kernel
theorem dX10_byOrders_69 : decode cX10_byOrders 69 = .ok (.ifCond .ne 7, 3) := by decide +kernel
theorem dX10_byOrders_72 : decode cX10_byOrders 72 = .ok (.iconst 1, 1) := by decide +kernel
theorem dX10_byOrders_73 : decode cX10_byOrders 73 = .ok (.goto 4, 3) := by decide +kernel
theorem dX10_byOrders_76 : decode cX10_byOrders 76 = .ok (.iconst 0, 1) := by decide +kernel
theorem dX10_byOrders_77 : decode cX10_byOrders 77 = .ok (.istore_n 2, 1) := by decide +kernel
theorem dX10_byOrders_78 : decode cX10_byOrders 78 = .ok (.iinc 3 1, 3) := by decide +kernel
theorem dX10_byOrders_81 : decode cX10_byOrders 81 = .ok (.goto (-42), 3) := by decide +kernel
theorem dX10_byOrders_84 : decode cX10_byOrders 84 = .ok (.iload_n 2, 1) := by decide +kernel
theorem dX10_byOrders_85 : decode cX10_byOrders 85 = .ok (.ifCond .eq 12, 3) := by decide +kernel
theorem dX10_byOrders_88 : decode cX10_byOrders 88 = .ok (.aload_n 0, 1) := by decide +kernel
theorem dX10_byOrders_89 : decode cX10_byOrders 89 = .ok (.invokevirtual 202, 3) := by decide +kernel
theorem dX10_byOrders_92 : decode cX10_byOrders 92 = .ok (.ifCond .ne 5, 3) := by decide +kernel
theorem dX10_byOrders_95 : decode cX10_byOrders 95 = .ok (.iconst 0, 1) := by decide +kernel
theorem dX10_byOrders_96 : decode cX10_byOrders 96 = .ok (.ireturn, 1) := by decide +kernel
theorem dX10_byOrders_97 : decode cX10_byOrders 97 = .ok (.aload_n 0, 1) := by decide +kernel
theorem dX10_byOrders_98 : decode cX10_byOrders 98 = .ok (.invokevirtual 205, 3) := by decide +kernel
theorem dX10_byOrders_101 : decode cX10_byOrders 101 = .ok (.istore_n 1, 1) := by decide +kernel
theorem dX10_byOrders_102 : decode cX10_byOrders 102 = .ok (.goto (-71), 3) := by decide +kernel
theorem dX10_byOrders_105 : decode cX10_byOrders 105 = .ok (.aload_n 0, 1) := by decide +kernel
theorem dX10_byOrders_106 : decode cX10_byOrders 106 = .ok (.bipush 108, 2) := by decide +kernel
theorem dX10_byOrders_108 : decode cX10_byOrders 108 = .ok (.bipush 105, 2) := by decide +kernel
theorem dX10_byOrders_110 : decode cX10_byOrders 110 = .ok (.invokevirtual 126, 3) := by decide +kernel
theorem dX10_byOrders_113 : decode cX10_byOrders 113 = .ok (.iconst 1, 1) := by decide +kernel
theorem dX10_byOrders_114 : decode cX10_byOrders 114 = .ok (.ireturn, 1) := by decide +kernel
theorem dX10_added_0 : decode cX10_added 0 = .ok (.aload_n 0, 1) := by decide +kernel
theorem dX10_added_1 : decode cX10_added 1 = .ok (.bipush 40, 2) := by decide +kernel
theorem dX10_added_3 : decode cX10_added 3 = .ok (.aload_n 0, 1) := by decide +kernel
theorem dX10_added_4 : decode cX10_added 4 = .ok (.getfield 35, 3) := by decide +kernel
theorem dX10_added_7 : decode cX10_added 7 = .ok (.iconst 0, 1) := by decide +kernel
theorem dX10_added_8 : decode cX10_added 8 = .ok (.iaload, 1) := by decide +kernel
theorem dX10_added_9 : decode cX10_added 9 = .ok (.iadd, 1) := by decide +kernel
theorem dX10_added_10 : decode cX10_added 10 = .ok (.bipush 107, 2) := by decide +kernel
theorem dX10_added_12 : decode cX10_added 12 = .ok (.invokevirtual 126, 3) := by decide +kernel
theorem dX10_added_15 : decode cX10_added 15 = .ok (.iconst 0, 1) := by decide +kernel
theorem dX10_added_16 : decode cX10_added 16 = .ok (.istore_n 1, 1) := by decide +kernel
theorem dX10_added_17 : decode cX10_added 17 = .ok (.iconst 1, 1) := by decide +kernel
theorem dX10_added_18 : decode cX10_added 18 = .ok (.istore_n 2, 1) := by decide +kernel
theorem dX10_added_19 : decode cX10_added 19 = .ok (.iload_n 2, 1) := by decide +kernel
theorem dX10_added_20 : decode cX10_added 20 = .ok (.aload_n 0, 1) := by decide +kernel
theorem dX10_added_21 : decode cX10_added 21 = .ok (.getfield 44, 3) := by decide +kernel
theorem dX10_added_24 : decode cX10_added 24 = .ok (.if_icmp .ge 79, 3) := by decide +kernel
theorem dX10_added_27 : decode cX10_added 27 = .ok (.aload_n 0, 1) := by decide +kernel
theorem dX10_added_28 : decode cX10_added 28 = .ok (.bipush 107, 2) := by decide +kernel
theorem dX10_added_30 : decode cX10_added 30 = .ok (.bipush 40, 2) := by decide +kernel
theorem dX10_added_32 : decode cX10_added 32 = .ok (.bipush 6, 2) := by decide +kernel
theorem dX10_added_34 : decode cX10_added 34 = .ok (.iload_n 2, 1) := by decide +kernel
theorem dX10_added_35 : decode cX10_added 35 = .ok (.imul, 1) := by decide +kernel
theorem dX10_added_36 : decode cX10_added 36 = .ok (.iadd, 1) := by decide +kernel
theorem dX10_added_37 : decode cX10_added 37 = .ok (.aload_n 0, 1) := by decide +kernel
theorem dX10_added_38 : decode cX10_added 38 = .ok (.getfield 35, 3) := by decide +kernel
theorem dX10_added_41 : decode cX10_added 41 = .ok (.iload_n 2, 1) := by decide +kernel
theorem dX10_added_42 : decode cX10_added 42 = .ok (.iaload, 1) := by decide +kernel
theorem dX10_added_43 : decode cX10_added 43 = .ok (.iadd, 1) := by decide +kernel
theorem dX10_added_44 : decode cX10_added 44 = .ok (.bipush 107, 2) := by decide +kernel
theorem dX10_added_46 : decode cX10_added 46 = .ok (.invokevirtual 144, 3) := by decide +kernel
theorem dX10_added_49 : decode cX10_added 49 = .ok (.ifCond .ne 5, 3) := by decide +kernel
theorem dX10_added_52 : decode cX10_added 52 = .ok (.iconst 0, 1) := by decide +kernel
theorem dX10_added_53 : decode cX10_added 53 = .ok (.ireturn, 1) := by decide +kernel
theorem dX10_added_54 : decode cX10_added 54 = .ok (.iconst 0, 1) := by decide +kernel
theorem dX10_added_55 : decode cX10_added 55 = .ok (.istore_n 3, 1) := by decide +kernel
theorem dX10_added_56 : decode cX10_added 56 = .ok (.iload_n 3, 1) := by decide +kernel
theorem dX10_added_57 : decode cX10_added 57 = .ok (.iload_n 2, 1) := by decide +kernel
theorem dX10_added_58 : decode cX10_added 58 = .ok (.if_icmp .ge 39, 3) := by decide +kernel
theorem dX10_added_61 : decode cX10_added 61 = .ok (.iload_n 1, 1) := by decide +kernel
theorem dX10_added_62 : decode cX10_added 62 = .ok (.aload_n 0, 1) := by decide +kernel
theorem dX10_added_63 : decode cX10_added 63 = .ok (.getfield 35, 3) := by decide +kernel
theorem dX10_added_66 : decode cX10_added 66 = .ok (.iload_n 3, 1) := by decide +kernel
theorem dX10_added_67 : decode cX10_added 67 = .ok (.iaload, 1) := by decide +kernel
theorem dX10_added_68 : decode cX10_added 68 = .ok (.aload_n 0, 1) := by decide +kernel
theorem dX10_added_69 : decode cX10_added 69 = .ok (.getfield 35, 3) := by decide +kernel
theorem dX10_added_72 : decode cX10_added 72 = .ok (.iload_n 2, 1) := by decide +kernel
theorem dX10_added_73 : decode cX10_added 73 = .ok (.iaload, 1) := by decide +kernel
theorem dX10_added_74 : decode cX10_added 74 = .ok (.if_icmp .le 7, 3) := by decide +kernel
theorem dX10_added_77 : decode cX10_added 77 = .ok (.iconst 1, 1) := by decide +kernel
theorem dX10_added_78 : decode cX10_added 78 = .ok (.goto 4, 3) := by decide +kernel
theorem dX10_added_81 : decode cX10_added 81 = .ok (.iconst 0, 1) := by decide +kernel
theorem dX10_added_82 : decode cX10_added 82 = .ok (.if_icmp .eq 7, 3) := by decide +kernel
theorem dX10_added_85 : decode cX10_added 85 = .ok (.iconst 1, 1) := by decide +kernel
theorem dX10_added_86 : decode cX10_added 86 = .ok (.goto 4, 3) := by decide +kernel
theorem dX10_added_89 : decode cX10_added 89 = .ok (.iconst 0, 1) := by decide +kernel
theorem dX10_added_90 : decode cX10_added 90 = .ok (.istore_n 1, 1) := by decide +kernel
theorem dX10_added_91 : decode cX10_added 91 = .ok (.iinc 3 1, 3) := by decide +kernel
theorem dX10_added_94 : decode cX10_added 94 = .ok (.goto (-38), 3) := by decide +kernel
theorem dX10_added_97 : decode cX10_added 97 = .ok (.iinc 2 1, 3) := by decide +kernel
theorem dX10_added_100 : decode cX10_added 100 = .ok (.goto (-81), 3) := by decide +kernel
theorem dX10_added_103 : decode cX10_added 103 = .ok (.aload_n 0, 1) := by decide +kernel
theorem dX10_added_104 : decode cX10_added 104 = .ok (.bipush 108, 2) := by decide +kernel
theorem dX10_added_106 : decode cX10_added 106 = .ok (.bipush 107, 2) := by decide +kernel
theorem dX10_added_108 : decode cX10_added 108 = .ok (.bipush 108, 2) := by decide +kernel
theorem dX10_added_110 : decode cX10_added 110 = .ok (.iload_n 1, 1) := by decide +kernel
theorem dX10_added_111 : decode cX10_added 111 = .ok (.invokevirtual 140, 3) := by decide +kernel
theorem dX10_added_114 : decode cX10_added 114 = .ok (.ireturn, 1) := by decide +kernel
theorem dX10_isNext_0 : decode cX10_isNext 0 = .ok (.aload_n 0, 1) := by decide +kernel
theorem dX10_isNext_1 : decode cX10_isNext 1 = .ok (.getfield 44, 3) := by decide +kernel
theorem dX10_isNext_4 : decode cX10_isNext 4 = .ok (.iconst 2, 1) := by decide +kernel
theorem dX10_isNext_5 : decode cX10_isNext 5 = .ok (.isub, 1) := by decide +kernel
theorem dX10_isNext_6 : decode cX10_isNext 6 = .ok (.istore_n 1, 1) := by decide +kernel
theorem dX10_isNext_7 : decode cX10_isNext 7 = .ok (.iload_n 1, 1) := by decide +kernel
theorem dX10_isNext_8 : decode cX10_isNext 8 = .ok (.ifCond .lt 26, 3) := by decide +kernel
theorem dX10_isNext_11 : decode cX10_isNext 11 = .ok (.aload_n 0, 1) := by decide +kernel
theorem dX10_isNext_12 : decode cX10_isNext 12 = .ok (.getfield 35, 3) := by decide +kernel
theorem dX10_isNext_15 : decode cX10_isNext 15 = .ok (.iload_n 1, 1) := by decide +kernel
theorem dX10_isNext_16 : decode cX10_isNext 16 = .ok (.iaload, 1) := by decide +kernel
theorem dX10_isNext_17 : decode cX10_isNext 17 = .ok (.aload_n 0, 1) := by decide +kernel
theorem dX10_isNext_18 : decode cX10_isNext 18 = .ok (.getfield 35, 3) := by decide +kernel
theorem dX10_isNext_21 : decode cX10_isNext 21 = .ok (.iload_n 1, 1) := by decide +kernel
theorem dX10_isNext_22 : decode cX10_isNext 22 = .ok (.iconst 1, 1) := by decide +kernel
theorem dX10_isNext_23 : decode cX10_isNext 23 = .ok (.iadd, 1) := by decide +kernel
theorem dX10_isNext_24 : decode cX10_isNext 24 = .ok (.iaload, 1) := by decide +kernel
theorem dX10_isNext_25 : decode cX10_isNext 25 = .ok (.if_icmp .le 9, 3) := by decide +kernel
theorem dX10_isNext_28 : decode cX10_isNext 28 = .ok (.iinc 1 (-1), 3) := by decide +kernel
theorem dX10_isNext_31 : decode cX10_isNext 31 = .ok (.goto (-24), 3) := by decide +kernel
theorem dX10_isNext_34 : decode cX10_isNext 34 = .ok (.iload_n 1, 1) := by decide +kernel
theorem dX10_isNext_35 : decode cX10_isNext 35 = .ok (.ifCond .ge 5, 3) := by decide +kernel
theorem dX10_isNext_38 : decode cX10_isNext 38 = .ok (.iconst 0, 1) := by decide +kernel
theorem dX10_isNext_39 : decode cX10_isNext 39 = .ok (.ireturn, 1) := by decide +kernel
theorem dX10_isNext_40 : decode cX10_isNext 40 = .ok (.aload_n 0, 1) := by decide +kernel
theorem dX10_isNext_41 : decode cX10_isNext 41 = .ok (.getfield 44, 3) := by decide +kernel
theorem dX10_isNext_44 : decode cX10_isNext 44 = .ok (.iconst 1, 1) := by decide +kernel
theorem dX10_isNext_45 : decode cX10_isNext 45 = .ok (.isub, 1) := by decide +kernel
theorem dX10_isNext_46 : decode cX10_isNext 46 = .ok (.istore_n 2, 1) := by decide +kernel
theorem dX10_isNext_47 : decode cX10_isNext 47 = .ok (.aload_n 0, 1) := by decide +kernel
theorem dX10_isNext_48 : decode cX10_isNext 48 = .ok (.getfield 35, 3) := by decide +kernel
theorem dX10_isNext_51 : decode cX10_isNext 51 = .ok (.iload_n 2, 1) := by decide +kernel
theorem dX10_isNext_52 : decode cX10_isNext 52 = .ok (.iaload, 1) := by decide +kernel
theorem dX10_isNext_53 : decode cX10_isNext 53 = .ok (.aload_n 0, 1) := by decide +kernel
theorem dX10_isNext_54 : decode cX10_isNext 54 = .ok (.getfield 35, 3) := by decide +kernel
theorem dX10_isNext_57 : decode cX10_isNext 57 = .ok (.iload_n 1, 1) := by decide +kernel
theorem dX10_isNext_58 : decode cX10_isNext 58 = .ok (.iaload, 1) := by decide +kernel
theorem dX10_isNext_59 : decode cX10_isNext 59 = .ok (.if_icmp .ge 9, 3) := by decide +kernel
theorem dX10_isNext_62 : decode cX10_isNext 62 = .ok (.iinc 2 (-1), 3) := by decide +kernel
theorem dX10_isNext_65 : decode cX10_isNext 65 = .ok (.goto (-18), 3) := by decide +kernel
theorem dX10_isNext_68 : decode cX10_isNext 68 = .ok (.aload_n 0, 1) := by decide +kernel
theorem dX10_isNext_69 : decode cX10_isNext 69 = .ok (.getfield 35, 3) := by decide +kernel
theorem dX10_isNext_72 : decode cX10_isNext 72 = .ok (.iload_n 1, 1) := by decide +kernel
theorem dX10_isNext_73 : decode cX10_isNext 73 = .ok (.iaload, 1) := by decide +kernel
theorem dX10_isNext_74 : decode cX10_isNext 74 = .ok (.istore_n 3, 1) := by decide +kernel
theorem dX10_isNext_75 : decode cX10_isNext 75 = .ok (.aload_n 0, 1) := by decide +kernel
theorem dX10_isNext_76 : decode cX10_isNext 76 = .ok (.getfield 35, 3) := by decide +kernel
theorem dX10_isNext_79 : decode cX10_isNext 79 = .ok (.iload_n 1, 1) := by decide +kernel
theorem dX10_isNext_80 : decode cX10_isNext 80 = .ok (.aload_n 0, 1) := by decide +kernel
theorem dX10_isNext_81 : decode cX10_isNext 81 = .ok (.getfield 35, 3) := by decide +kernel
theorem dX10_isNext_84 : decode cX10_isNext 84 = .ok (.iload_n 2, 1) := by decide +kernel
theorem dX10_isNext_85 : decode cX10_isNext 85 = .ok (.iaload, 1) := by decide +kernel
theorem dX10_isNext_86 : decode cX10_isNext 86 = .ok (.iastore, 1) := by decide +kernel
theorem dX10_isNext_87 : decode cX10_isNext 87 = .ok (.aload_n 0, 1) := by decide +kernel
theorem dX10_isNext_88 : decode cX10_isNext 88 = .ok (.getfield 35, 3) := by decide +kernel
theorem dX10_isNext_91 : decode cX10_isNext 91 = .ok (.iload_n 2, 1) := by decide +kernel
theorem dX10_isNext_92 : decode cX10_isNext 92 = .ok (.iload_n 3, 1) := by decide +kernel
theorem dX10_isNext_93 : decode cX10_isNext 93 = .ok (.iastore, 1) := by decide +kernel
theorem dX10_isNext_94 : decode cX10_isNext 94 = .ok (.iload_n 1, 1) := by decide +kernel
theorem dX10_isNext_95 : decode cX10_isNext 95 = .ok (.iconst 1, 1) := by decide +kernel
theorem dX10_isNext_96 : decode cX10_isNext 96 = .ok (.iadd, 1) := by decide +kernel
theorem dX10_isNext_97 : decode cX10_isNext 97 = .ok (.istore 4, 2) := by decide +kernel
theorem dX10_isNext_99 : decode cX10_isNext 99 = .ok (.aload_n 0, 1) := by decide +kernel
theorem dX10_isNext_100 : decode cX10_isNext 100 = .ok (.getfield 44, 3) := by decide +kernel
theorem dX10_isNext_103 : decode cX10_isNext 103 = .ok (.iconst 1, 1) := by decide +kernel
theorem dX10_isNext_104 : decode cX10_isNext 104 = .ok (.isub, 1) := by decide +kernel
theorem dX10_isNext_105 : decode cX10_isNext 105 = .ok (.istore 5, 2) := by decide +kernel
theorem dX10_isNext_107 : decode cX10_isNext 107 = .ok (.iload 4, 2) := by decide +kernel
theorem dX10_isNext_109 : decode cX10_isNext 109 = .ok (.iload 5, 2) := by decide +kernel
theorem dX10_isNext_111 : decode cX10_isNext 111 = .ok (.if_icmp .ge 42, 3) := by decide +kernel
theorem dX10_isNext_114 : decode cX10_isNext 114 = .ok (.aload_n 0, 1) := by decide +kernel
theorem dX10_isNext_115 : decode cX10_isNext 115 = .ok (.getfield 35, 3) := by decide +kernel
theorem dX10_isNext_118 : decode cX10_isNext 118 = .ok (.iload 4, 2) := by decide +kernel
theorem dX10_isNext_120 : decode cX10_isNext 120 = .ok (.iaload, 1) := by decide +kernel
theorem dX10_isNext_121 : decode cX10_isNext 121 = .ok (.istore_n 3, 1) := by decide +kernel
theorem dX10_isNext_122 : decode cX10_isNext 122 = .ok (.aload_n 0, 1) := by decide +kernel
theorem dX10_isNext_123 : decode cX10_isNext 123 = .ok (.getfield 35, 3) := by decide +kernel
theorem dX10_isNext_126 : decode cX10_isNext 126 = .ok (.iload 4, 2) := by decide +kernel
theorem dX10_isNext_128 : decode cX10_isNext 128 = .ok (.aload_n 0, 1) := by decide +kernel
theorem dX10_isNext_129 : decode cX10_isNext 129 = .ok (.getfield 35, 3) := by decide +kernel
theorem dX10_isNext_132 : decode cX10_isNext 132 = .ok (.iload 5, 2) := by decide +kernel
theorem dX10_isNext_134 : decode cX10_isNext 134 = .ok (.iaload, 1) := by decide +kernel
theorem dX10_isNext_135 : decode cX10_isNext 135 = .ok (.iastore, 1) := by decide +kernel
theorem dX10_isNext_136 : decode cX10_isNext 136 = .ok (.aload_n 0, 1) := by decide +kernel
theorem dX10_isNext_137 : decode cX10_isNext 137 = .ok (.getfield 35, 3) := by decide +kernel
theorem dX10_isNext_140 : decode cX10_isNext 140 = .ok (.iload 5, 2) := by decide +kernel
theorem dX10_isNext_142 : decode cX10_isNext 142 = .ok (.iload_n 3, 1) := by decide +kernel
theorem dX10_isNext_143 : decode cX10_isNext 143 = .ok (.iastore, 1) := by decide +kernel
theorem dX10_isNext_144 : decode cX10_isNext 144 = .ok (.iinc 4 1, 3) := by decide +kernel
theorem dX10_isNext_147 : decode cX10_isNext 147 = .ok (.iinc 5 (-1), 3) := by decide +kernel
theorem dX10_isNext_150 : decode cX10_isNext 150 = .ok (.goto (-43), 3) := by decide +kernel
theorem dX10_isNext_153 : decode cX10_isNext 153 = .ok (.iconst 1, 1) := by decide +kernel
theorem dX10_isNext_154 : decode cX10_isNext 154 = .ok (.ireturn, 1) := by decide +kernel
theorem dX10_isPrime_0 : decode cX10_isPrime 0 = .ok (.iload_n 0, 1) := by decide +kernel
theorem dX10_isPrime_1 : decode cX10_isPrime 1 = .ok (.iconst 2, 1) := by decide +kernel
theorem dX10_isPrime_2 : decode cX10_isPrime 2 = .ok (.if_icmp .ge 5, 3) := by decide +kernel
theorem dX10_isPrime_5 : decode cX10_isPrime 5 = .ok (.iconst 0, 1) := by decide +kernel
theorem dX10_isPrime_6 : decode cX10_isPrime 6 = .ok (.ireturn, 1) := by decide +kernel
theorem dX10_isPrime_7 : decode cX10_isPrime 7 = .ok (.ldc2_w 208, 3) := by decide +kernel
theorem dX10_isPrime_10 : decode cX10_isPrime 10 = .ok (.lstore_n 1, 1) := by decide +kernel
theorem dX10_isPrime_11 : decode cX10_isPrime 11 = .ok (.lload_n 1, 1) := by decide +kernel
theorem dX10_isPrime_12 : decode cX10_isPrime 12 = .ok (.lload_n 1, 1) := by decide +kernel
theorem dX10_isPrime_13 : decode cX10_isPrime 13 = .ok (.lmul, 1) := by decide +kernel
theorem dX10_isPrime_14 : decode cX10_isPrime 14 = .ok (.iload_n 0, 1) := by decide +kernel
theorem dX10_isPrime_15 : decode cX10_isPrime 15 = .ok (.i2l, 1) := by decide +kernel
theorem dX10_isPrime_16 : decode cX10_isPrime 16 = .ok (.lcmp, 1) := by decide +kernel
theorem dX10_isPrime_17 : decode cX10_isPrime 17 = .ok (.ifCond .gt 21, 3) := by decide +kernel
theorem dX10_isPrime_20 : decode cX10_isPrime 20 = .ok (.iload_n 0, 1) := by decide +kernel
theorem dX10_isPrime_21 : decode cX10_isPrime 21 = .ok (.i2l, 1) := by decide +kernel
theorem dX10_isPrime_22 : decode cX10_isPrime 22 = .ok (.lload_n 1, 1) := by decide +kernel
theorem dX10_isPrime_23 : decode cX10_isPrime 23 = .ok (.lrem, 1) := by decide +kernel
theorem dX10_isPrime_24 : decode cX10_isPrime 24 = .ok (.lconst 0, 1) := by decide +kernel
theorem dX10_isPrime_25 : decode cX10_isPrime 25 = .ok (.lcmp, 1) := by decide +kernel
theorem dX10_isPrime_26 : decode cX10_isPrime 26 = .ok (.ifCond .ne 5, 3) := by decide +kernel
theorem dX10_isPrime_29 : decode cX10_isPrime 29 = .ok (.iconst 0, 1) := by decide +kernel
theorem dX10_isPrime_30 : decode cX10_isPrime 30 = .ok (.ireturn, 1) := by decide +kernel
theorem dX10_isPrime_31 : decode cX10_isPrime 31 = .ok (.lload_n 1, 1) := by decide +kernel
theorem dX10_isPrime_32 : decode cX10_isPrime 32 = .ok (.lconst 1, 1) := by decide +kernel
theorem dX10_isPrime_33 : decode cX10_isPrime 33 = .ok (.ladd, 1) := by decide +kernel
theorem dX10_isPrime_34 : decode cX10_isPrime 34 = .ok (.lstore_n 1, 1) := by decide +kernel
theorem dX10_isPrime_35 : decode cX10_isPrime 35 = .ok (.goto (-24), 3) := by decide +kernel
theorem dX10_isPrime_38 : decode cX10_isPrime 38 = .ok (.iconst 1, 1) := by decide +kernel
theorem dX10_isPrime_39 : decode cX10_isPrime 39 = .ok (.ireturn, 1) := by decide +kernel
theorem dX10_inverse_0 : decode cX10_inverse 0 = .ok (.lconst 1, 1) := by decide +kernel
theorem dX10_inverse_1 : decode cX10_inverse 1 = .ok (.lstore_n 2, 1) := by decide +kernel
theorem dX10_inverse_2 : decode cX10_inverse 2 = .ok (.iload_n 0, 1) := by decide +kernel
theorem dX10_inverse_3 : decode cX10_inverse 3 = .ok (.i2l, 1) := by decide +kernel
theorem dX10_inverse_4 : decode cX10_inverse 4 = .ok (.lstore 4, 2) := by decide +kernel
theorem dX10_inverse_6 : decode cX10_inverse 6 = .ok (.iload_n 1, 1) := by decide +kernel
theorem dX10_inverse_7 : decode cX10_inverse 7 = .ok (.iconst 2, 1) := by decide +kernel
theorem dX10_inverse_8 : decode cX10_inverse 8 = .ok (.isub, 1) := by decide +kernel
theorem dX10_inverse_9 : decode cX10_inverse 9 = .ok (.istore 6, 2) := by decide +kernel
theorem dX10_inverse_11 : decode cX10_inverse 11 = .ok (.iload 6, 2) := by decide +kernel
theorem dX10_inverse_13 : decode cX10_inverse 13 = .ok (.ifCond .le 38, 3) := by decide +kernel
theorem dX10_inverse_16 : decode cX10_inverse 16 = .ok (.iload 6, 2) := by decide +kernel
theorem dX10_inverse_18 : decode cX10_inverse 18 = .ok (.iconst 1, 1) := by decide +kernel
theorem dX10_inverse_19 : decode cX10_inverse 19 = .ok (.iand, 1) := by decide +kernel
theorem dX10_inverse_20 : decode cX10_inverse 20 = .ok (.iconst 1, 1) := by decide +kernel
theorem dX10_inverse_21 : decode cX10_inverse 21 = .ok (.if_icmp .ne 11, 3) := by decide +kernel
theorem dX10_inverse_24 : decode cX10_inverse 24 = .ok (.lload_n 2, 1) := by decide +kernel
theorem dX10_inverse_25 : decode cX10_inverse 25 = .ok (.lload 4, 2) := by decide +kernel
theorem dX10_inverse_27 : decode cX10_inverse 27 = .ok (.lmul, 1) := by decide +kernel
theorem dX10_inverse_28 : decode cX10_inverse 28 = .ok (.iload_n 1, 1) := by decide +kernel
theorem dX10_inverse_29 : decode cX10_inverse 29 = .ok (.i2l, 1) := by decide +kernel
theorem dX10_inverse_30 : decode cX10_inverse 30 = .ok (.lrem, 1) := by decide +kernel
theorem dX10_inverse_31 : decode cX10_inverse 31 = .ok (.lstore_n 2, 1) := by decide +kernel
theorem dX10_inverse_32 : decode cX10_inverse 32 = .ok (.lload 4, 2) := by decide +kernel
theorem dX10_inverse_34 : decode cX10_inverse 34 = .ok (.lload 4, 2) := by decide +kernel
theorem dX10_inverse_36 : decode cX10_inverse 36 = .ok (.lmul, 1) := by decide +kernel
theorem dX10_inverse_37 : decode cX10_inverse 37 = .ok (.iload_n 1, 1) := by decide +kernel
theorem dX10_inverse_38 : decode cX10_inverse 38 = .ok (.i2l, 1) := by decide +kernel
theorem dX10_inverse_39 : decode cX10_inverse 39 = .ok (.lrem, 1) := by decide +kernel
theorem dX10_inverse_40 : decode cX10_inverse 40 = .ok (.lstore 4, 2) := by decide +kernel
theorem dX10_inverse_42 : decode cX10_inverse 42 = .ok (.iload 6, 2) := by decide +kernel
theorem dX10_inverse_44 : decode cX10_inverse 44 = .ok (.iconst 1, 1) := by decide +kernel
theorem dX10_inverse_45 : decode cX10_inverse 45 = .ok (.ishr, 1) := by decide +kernel
theorem dX10_inverse_46 : decode cX10_inverse 46 = .ok (.istore 6, 2) := by decide +kernel
theorem dX10_inverse_48 : decode cX10_inverse 48 = .ok (.goto (-37), 3) := by decide +kernel
theorem dX10_inverse_51 : decode cX10_inverse 51 = .ok (.lload_n 2, 1) := by decide +kernel
theorem dX10_inverse_52 : decode cX10_inverse 52 = .ok (.l2i, 1) := by decide +kernel
theorem dX10_inverse_53 : decode cX10_inverse 53 = .ok (.ireturn, 1) := by decide +kernel
theorem dX10_rest_0 : decode cX10_rest 0 = .ok (.aload_n 0, 1) := by decide +kernel
theorem dX10_rest_1 : decode cX10_rest 1 = .ok (.iconst 0, 1) := by decide +kernel
theorem dX10_rest_2 : decode cX10_rest 2 = .ok (.putfield 52, 3) := by decide +kernel
theorem dX10_rest_5 : decode cX10_rest 5 = .ok (.aload_n 0, 1) := by decide +kernel
theorem dX10_rest_6 : decode cX10_rest 6 = .ok (.iload_n 1, 1) := by decide +kernel
theorem dX10_rest_7 : decode cX10_rest 7 = .ok (.invokevirtual 137, 3) := by decide +kernel
theorem dX10_rest_10 : decode cX10_rest 10 = .ok (.ifCond .eq 10, 3) := by decide +kernel
theorem dX10_rest_13 : decode cX10_rest 13 = .ok (.iload_n 2, 1) := by decide +kernel
theorem dX10_rest_14 : decode cX10_rest 14 = .ok (.invokestatic 210, 3) := by decide +kernel
theorem dX10_rest_17 : decode cX10_rest 17 = .ok (.ifCond .ne 5, 3) := by decide +kernel
theorem dX10_rest_20 : decode cX10_rest 20 = .ok (.iconst (-1), 1) := by decide +kernel
theorem dX10_rest_21 : decode cX10_rest 21 = .ok (.ireturn, 1) := by decide +kernel
theorem dX10_rest_22 : decode cX10_rest 22 = .ok (.aload_n 0, 1) := by decide +kernel
theorem dX10_rest_23 : decode cX10_rest 23 = .ok (.iconst 2, 1) := by decide +kernel
theorem dX10_rest_24 : decode cX10_rest 24 = .ok (.iload_n 1, 1) := by decide +kernel
theorem dX10_rest_25 : decode cX10_rest 25 = .ok (.imul, 1) := by decide +kernel
theorem dX10_rest_26 : decode cX10_rest 26 = .ok (.iconst 1, 1) := by decide +kernel
theorem dX10_rest_27 : decode cX10_rest 27 = .ok (.iadd, 1) := by decide +kernel
theorem dX10_rest_28 : decode cX10_rest 28 = .ok (.iload_n 2, 1) := by decide +kernel
theorem dX10_rest_29 : decode cX10_rest 29 = .ok (.invokevirtual 213, 3) := by decide +kernel
theorem dX10_rest_32 : decode cX10_rest 32 = .ok (.istore_n 3, 1) := by decide +kernel
theorem dX10_rest_33 : decode cX10_rest 33 = .ok (.iload_n 3, 1) := by decide +kernel
theorem dX10_rest_34 : decode cX10_rest 34 = .ok (.ifCond .ne 6, 3) := by decide +kernel
theorem dX10_rest_37 : decode cX10_rest 37 = .ok (.bipush (-2), 2) := by decide +kernel
theorem dX10_rest_39 : decode cX10_rest 39 = .ok (.ireturn, 1) := by decide +kernel
theorem dX10_rest_40 : decode cX10_rest 40 = .ok (.aload_n 0, 1) := by decide +kernel
theorem dX10_rest_41 : decode cX10_rest 41 = .ok (.iconst 2, 1) := by decide +kernel
theorem dX10_rest_42 : decode cX10_rest 42 = .ok (.iload_n 1, 1) := by decide +kernel
theorem dX10_rest_43 : decode cX10_rest 43 = .ok (.imul, 1) := by decide +kernel
theorem dX10_rest_44 : decode cX10_rest 44 = .ok (.iload_n 2, 1) := by decide +kernel
theorem dX10_rest_45 : decode cX10_rest 45 = .ok (.invokevirtual 213, 3) := by decide +kernel
theorem dX10_rest_48 : decode cX10_rest 48 = .ok (.i2l, 1) := by decide +kernel
theorem dX10_rest_49 : decode cX10_rest 49 = .ok (.iload_n 3, 1) := by decide +kernel
theorem dX10_rest_50 : decode cX10_rest 50 = .ok (.iload_n 2, 1) := by decide +kernel
theorem dX10_rest_51 : decode cX10_rest 51 = .ok (.invokestatic 216, 3) := by decide +kernel
theorem dX10_rest_54 : decode cX10_rest 54 = .ok (.i2l, 1) := by decide +kernel
theorem dX10_rest_55 : decode cX10_rest 55 = .ok (.lmul, 1) := by decide +kernel
theorem dX10_rest_56 : decode cX10_rest 56 = .ok (.iload_n 2, 1) := by decide +kernel
theorem dX10_rest_57 : decode cX10_rest 57 = .ok (.i2l, 1) := by decide +kernel
theorem dX10_rest_58 : decode cX10_rest 58 = .ok (.lrem, 1) := by decide +kernel
theorem dX10_rest_59 : decode cX10_rest 59 = .ok (.lstore 4, 2) := by decide +kernel
theorem dX10_rest_61 : decode cX10_rest 61 = .ok (.aload_n 0, 1) := by decide +kernel
theorem dX10_rest_62 : decode cX10_rest 62 = .ok (.getfield 13, 3) := by decide +kernel
theorem dX10_rest_65 : decode cX10_rest 65 = .ok (.iload_n 1, 1) := by decide +kernel
theorem dX10_rest_66 : decode cX10_rest 66 = .ok (.baload, 1) := by decide +kernel
theorem dX10_rest_67 : decode cX10_rest 67 = .ok (.ifCond .eq 18, 3) := by decide +kernel
theorem dX10_rest_70 : decode cX10_rest 70 = .ok (.lload 4, 2) := by decide +kernel
theorem dX10_rest_72 : decode cX10_rest 72 = .ok (.lconst 0, 1) := by decide +kernel
theorem dX10_rest_73 : decode cX10_rest 73 = .ok (.lcmp, 1) := by decide +kernel
theorem dX10_rest_74 : decode cX10_rest 74 = .ok (.ifCond .le 11, 3) := by decide +kernel
theorem dX10_rest_77 : decode cX10_rest 77 = .ok (.iload_n 2, 1) := by decide +kernel
theorem dX10_rest_78 : decode cX10_rest 78 = .ok (.i2l, 1) := by decide +kernel
theorem dX10_rest_79 : decode cX10_rest 79 = .ok (.lload 4, 2) := by decide +kernel
theorem dX10_rest_81 : decode cX10_rest 81 = .ok (.lsub, 1) := by decide +kernel
theorem dX10_rest_82 : decode cX10_rest 82 = .ok (.goto 5, 3) := by decide +kernel
theorem dX10_rest_85 : decode cX10_rest 85 = .ok (.lload 4, 2) := by decide +kernel
theorem dX10_rest_87 : decode cX10_rest 87 = .ok (.l2i, 1) := by decide +kernel
theorem dX10_rest_88 : decode cX10_rest 88 = .ok (.ireturn, 1) := by decide +kernel
theorem dX10_meet_0 : decode cX10_meet 0 = .ok (.aload_n 0, 1) := by decide +kernel
theorem dX10_meet_1 : decode cX10_meet 1 = .ok (.iconst 0, 1) := by decide +kernel
theorem dX10_meet_2 : decode cX10_meet 2 = .ok (.putfield 52, 3) := by decide +kernel
theorem dX10_meet_5 : decode cX10_meet 5 = .ok (.iload_n 1, 1) := by decide +kernel
theorem dX10_meet_6 : decode cX10_meet 6 = .ok (.invokestatic 210, 3) := by decide +kernel
theorem dX10_meet_9 : decode cX10_meet 9 = .ok (.ifCond .eq 14, 3) := by decide +kernel
theorem dX10_meet_12 : decode cX10_meet 12 = .ok (.iload_n 2, 1) := by decide +kernel
theorem dX10_meet_13 : decode cX10_meet 13 = .ok (.iconst 0, 1) := by decide +kernel
theorem dX10_meet_14 : decode cX10_meet 14 = .ok (.iload_n 1, 1) := by decide +kernel
theorem dX10_meet_15 : decode cX10_meet 15 = .ok (.iconst 1, 1) := by decide +kernel
theorem dX10_meet_16 : decode cX10_meet 16 = .ok (.isub, 1) := by decide +kernel
theorem dX10_meet_17 : decode cX10_meet 17 = .ok (.invokestatic 119, 3) := by decide +kernel
theorem dX10_meet_20 : decode cX10_meet 20 = .ok (.ifCond .ne 5, 3) := by decide +kernel
theorem dX10_meet_23 : decode cX10_meet 23 = .ok (.iconst (-1), 1) := by decide +kernel
theorem dX10_meet_24 : decode cX10_meet 24 = .ok (.ireturn, 1) := by decide +kernel
theorem dX10_meet_25 : decode cX10_meet 25 = .ok (.aload_n 0, 1) := by decide +kernel
theorem dX10_meet_26 : decode cX10_meet 26 = .ok (.sipush 223, 3) := by decide +kernel
theorem dX10_meet_29 : decode cX10_meet 29 = .ok (.iload_n 1, 1) := by decide +kernel
theorem dX10_meet_30 : decode cX10_meet 30 = .ok (.invokevirtual 213, 3) := by decide +kernel
theorem dX10_meet_33 : decode cX10_meet 33 = .ok (.istore_n 3, 1) := by decide +kernel
theorem dX10_meet_34 : decode cX10_meet 34 = .ok (.iload_n 3, 1) := by decide +kernel
theorem dX10_meet_35 : decode cX10_meet 35 = .ok (.ifCond .ne 6, 3) := by decide +kernel
theorem dX10_meet_38 : decode cX10_meet 38 = .ok (.bipush (-5), 2) := by decide +kernel
theorem dX10_meet_40 : decode cX10_meet 40 = .ok (.ireturn, 1) := by decide +kernel
theorem dX10_meet_41 : decode cX10_meet 41 = .ok (.aload_n 0, 1) := by decide +kernel
theorem dX10_meet_42 : decode cX10_meet 42 = .ok (.sipush 224, 3) := by decide +kernel
theorem dX10_meet_45 : decode cX10_meet 45 = .ok (.iload_n 1, 1) := by decide +kernel
theorem dX10_meet_46 : decode cX10_meet 46 = .ok (.i2l, 1) := by decide +kernel
theorem dX10_meet_47 : decode cX10_meet 47 = .ok (.invokevirtual 112, 3) := by decide +kernel
theorem dX10_meet_50 : decode cX10_meet 50 = .ok (.aload_n 0, 1) := by decide +kernel
theorem dX10_meet_51 : decode cX10_meet 51 = .ok (.sipush 223, 3) := by decide +kernel
theorem dX10_meet_54 : decode cX10_meet 54 = .ok (.sipush 224, 3) := by decide +kernel
theorem dX10_meet_57 : decode cX10_meet 57 = .ok (.sipush 226, 3) := by decide +kernel
theorem dX10_meet_60 : decode cX10_meet 60 = .ok (.invokevirtual 102, 3) := by decide +kernel
theorem dX10_meet_63 : decode cX10_meet 63 = .ok (.aload_n 0, 1) := by decide +kernel
theorem dX10_meet_64 : decode cX10_meet 64 = .ok (.sipush 226, 3) := by decide +kernel
theorem dX10_meet_67 : decode cX10_meet 67 = .ok (.invokevirtual 65, 3) := by decide +kernel
theorem dX10_meet_70 : decode cX10_meet 70 = .ok (.sipush 192, 3) := by decide +kernel
theorem dX10_meet_73 : decode cX10_meet 73 = .ok (.if_icmp .le 8, 3) := by decide +kernel
theorem dX10_meet_76 : decode cX10_meet 76 = .ok (.aload_n 0, 1) := by decide +kernel
theorem dX10_meet_77 : decode cX10_meet 77 = .ok (.invokevirtual 153, 3) := by decide +kernel
theorem dX10_meet_80 : decode cX10_meet 80 = .ok (.ireturn, 1) := by decide +kernel
theorem dX10_meet_81 : decode cX10_meet 81 = .ok (.iload_n 2, 1) := by decide +kernel
theorem dX10_meet_82 : decode cX10_meet 82 = .ok (.i2l, 1) := by decide +kernel
theorem dX10_meet_83 : decode cX10_meet 83 = .ok (.aload_n 0, 1) := by decide +kernel
theorem dX10_meet_84 : decode cX10_meet 84 = .ok (.sipush 222, 3) := by decide +kernel
theorem dX10_meet_87 : decode cX10_meet 87 = .ok (.iload_n 1, 1) := by decide +kernel
