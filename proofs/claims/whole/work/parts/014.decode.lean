theorem dX9_answers_39 : decode cX9_answers 39 = .ok (.iconst 1, 1) := by decide +kernel
theorem dX9_answers_40 : decode cX9_answers 40 = .ok (.goto 4, 3) := by decide +kernel
theorem dX9_answers_43 : decode cX9_answers 43 = .ok (.iconst 2, 1) := by decide +kernel
theorem dX9_answers_44 : decode cX9_answers 44 = .ok (.ireturn, 1) := by decide +kernel
theorem dX9_unknown_0 : decode cX9_unknown 0 = .ok (.aload_n 0, 1) := by decide +kernel
theorem dX9_unknown_1 : decode cX9_unknown 1 = .ok (.getfield 61, 3) := by decide +kernel
theorem dX9_unknown_4 : decode cX9_unknown 4 = .ok (.invokevirtual 193, 3) := by decide +kernel
theorem dX9_unknown_7 : decode cX9_unknown 7 = .ok (.ifCond .ne 6, 3) := by decide +kernel
theorem dX9_unknown_10 : decode cX9_unknown 10 = .ok (.bipush (-5), 2) := by decide +kernel
theorem dX9_unknown_12 : decode cX9_unknown 12 = .ok (.ireturn, 1) := by decide +kernel
theorem dX9_unknown_13 : decode cX9_unknown 13 = .ok (.iload_n 1, 1) := by decide +kernel
theorem dX9_unknown_14 : decode cX9_unknown 14 = .ok (.ifCond .lt 11, 3) := by decide +kernel
theorem dX9_unknown_17 : decode cX9_unknown 17 = .ok (.iload_n 1, 1) := by decide +kernel
theorem dX9_unknown_18 : decode cX9_unknown 18 = .ok (.aload_n 0, 1) := by decide +kernel
theorem dX9_unknown_19 : decode cX9_unknown 19 = .ok (.getfield 21, 3) := by decide +kernel
theorem dX9_unknown_22 : decode cX9_unknown 22 = .ok (.if_icmp .lt 5, 3) := by decide +kernel
theorem dX9_unknown_25 : decode cX9_unknown 25 = .ok (.iconst (-1), 1) := by decide +kernel
theorem dX9_unknown_26 : decode cX9_unknown 26 = .ok (.ireturn, 1) := by decide +kernel
theorem dX9_unknown_27 : decode cX9_unknown 27 = .ok (.aload_n 0, 1) := by decide +kernel
theorem dX9_unknown_28 : decode cX9_unknown 28 = .ok (.aload_n 0, 1) := by decide +kernel
theorem dX9_unknown_29 : decode cX9_unknown 29 = .ok (.getfield 61, 3) := by decide +kernel
theorem dX9_unknown_32 : decode cX9_unknown 32 = .ok (.getfield 196, 3) := by decide +kernel
theorem dX9_unknown_35 : decode cX9_unknown 35 = .ok (.iload_n 1, 1) := by decide +kernel
theorem dX9_unknown_36 : decode cX9_unknown 36 = .ok (.aaload, 1) := by decide +kernel
theorem dX9_unknown_37 : decode cX9_unknown 37 = .ok (.invokevirtual 166, 3) := by decide +kernel
theorem dX9_unknown_40 : decode cX9_unknown 40 = .ok (.ireturn, 1) := by decide +kernel
theorem dX9_pivot_0 : decode cX9_pivot 0 = .ok (.aload_n 0, 1) := by decide +kernel
theorem dX9_pivot_1 : decode cX9_pivot 1 = .ok (.getfield 61, 3) := by decide +kernel
theorem dX9_pivot_4 : decode cX9_pivot 4 = .ok (.getfield 187, 3) := by decide +kernel
theorem dX9_pivot_7 : decode cX9_pivot 7 = .ok (.ifCond .ne 6, 3) := by decide +kernel
theorem dX9_pivot_10 : decode cX9_pivot 10 = .ok (.bipush (-5), 2) := by decide +kernel
theorem dX9_pivot_12 : decode cX9_pivot 12 = .ok (.ireturn, 1) := by decide +kernel
theorem dX9_pivot_13 : decode cX9_pivot 13 = .ok (.iload_n 1, 1) := by decide +kernel
theorem dX9_pivot_14 : decode cX9_pivot 14 = .ok (.ifCond .lt 14, 3) := by decide +kernel
theorem dX9_pivot_17 : decode cX9_pivot 17 = .ok (.iload_n 1, 1) := by decide +kernel
theorem dX9_pivot_18 : decode cX9_pivot 18 = .ok (.aload_n 0, 1) := by decide +kernel
theorem dX9_pivot_19 : decode cX9_pivot 19 = .ok (.getfield 61, 3) := by decide +kernel
theorem dX9_pivot_22 : decode cX9_pivot 22 = .ok (.getfield 184, 3) := by decide +kernel
theorem dX9_pivot_25 : decode cX9_pivot 25 = .ok (.if_icmp .lt 5, 3) := by decide +kernel
theorem dX9_pivot_28 : decode cX9_pivot 28 = .ok (.iconst (-1), 1) := by decide +kernel
theorem dX9_pivot_29 : decode cX9_pivot 29 = .ok (.ireturn, 1) := by decide +kernel
theorem dX9_pivot_30 : decode cX9_pivot 30 = .ok (.iload_n 2, 1) := by decide +kernel
theorem dX9_pivot_31 : decode cX9_pivot 31 = .ok (.tableswitch 55 0 2 #[25, 35, 45], 25) := by decide +kernel
theorem dX9_pivot_56 : decode cX9_pivot 56 = .ok (.aload_n 0, 1) := by decide +kernel
theorem dX9_pivot_57 : decode cX9_pivot 57 = .ok (.getfield 61, 3) := by decide +kernel
theorem dX9_pivot_60 : decode cX9_pivot 60 = .ok (.getfield 199, 3) := by decide +kernel
theorem dX9_pivot_63 : decode cX9_pivot 63 = .ok (.iload_n 1, 1) := by decide +kernel
theorem dX9_pivot_64 : decode cX9_pivot 64 = .ok (.iaload, 1) := by decide +kernel
theorem dX9_pivot_65 : decode cX9_pivot 65 = .ok (.ireturn, 1) := by decide +kernel
theorem dX9_pivot_66 : decode cX9_pivot 66 = .ok (.aload_n 0, 1) := by decide +kernel
theorem dX9_pivot_67 : decode cX9_pivot 67 = .ok (.getfield 61, 3) := by decide +kernel
theorem dX9_pivot_70 : decode cX9_pivot 70 = .ok (.getfield 202, 3) := by decide +kernel
theorem dX9_pivot_73 : decode cX9_pivot 73 = .ok (.iload_n 1, 1) := by decide +kernel
theorem dX9_pivot_74 : decode cX9_pivot 74 = .ok (.iaload, 1) := by decide +kernel
theorem dX9_pivot_75 : decode cX9_pivot 75 = .ok (.ireturn, 1) := by decide +kernel
theorem dX9_pivot_76 : decode cX9_pivot 76 = .ok (.aload_n 0, 1) := by decide +kernel
theorem dX9_pivot_77 : decode cX9_pivot 77 = .ok (.getfield 61, 3) := by decide +kernel
theorem dX9_pivot_80 : decode cX9_pivot 80 = .ok (.getfield 205, 3) := by decide +kernel
theorem dX9_pivot_83 : decode cX9_pivot 83 = .ok (.iload_n 1, 1) := by decide +kernel
theorem dX9_pivot_84 : decode cX9_pivot 84 = .ok (.iaload, 1) := by decide +kernel
theorem dX9_pivot_85 : decode cX9_pivot 85 = .ok (.ireturn, 1) := by decide +kernel
theorem dX9_pivot_86 : decode cX9_pivot 86 = .ok (.iconst (-1), 1) := by decide +kernel
theorem dX9_pivot_87 : decode cX9_pivot 87 = .ok (.ireturn, 1) := by decide +kernel
theorem dX9_holds_0 : decode cX9_holds 0 = .ok (.aload_n 0, 1) := by decide +kernel
theorem dX9_holds_1 : decode cX9_holds 1 = .ok (.getfield 61, 3) := by decide +kernel
theorem dX9_holds_4 : decode cX9_holds 4 = .ok (.invokevirtual 193, 3) := by decide +kernel
theorem dX9_holds_7 : decode cX9_holds 7 = .ok (.ifCond .ne 6, 3) := by decide +kernel
theorem dX9_holds_10 : decode cX9_holds 10 = .ok (.bipush (-5), 2) := by decide +kernel
theorem dX9_holds_12 : decode cX9_holds 12 = .ok (.ireturn, 1) := by decide +kernel
theorem dX9_holds_13 : decode cX9_holds 13 = .ok (.iload_n 1, 1) := by decide +kernel
theorem dX9_holds_14 : decode cX9_holds 14 = .ok (.ifCond .lt 11, 3) := by decide +kernel
theorem dX9_holds_17 : decode cX9_holds 17 = .ok (.iload_n 1, 1) := by decide +kernel
theorem dX9_holds_18 : decode cX9_holds 18 = .ok (.aload_n 0, 1) := by decide +kernel
theorem dX9_holds_19 : decode cX9_holds 19 = .ok (.getfield 21, 3) := by decide +kernel
theorem dX9_holds_22 : decode cX9_holds 22 = .ok (.if_icmp .lt 5, 3) := by decide +kernel
theorem dX9_holds_25 : decode cX9_holds 25 = .ok (.iconst (-1), 1) := by decide +kernel
theorem dX9_holds_26 : decode cX9_holds 26 = .ok (.ireturn, 1) := by decide +kernel
theorem dX9_holds_27 : decode cX9_holds 27 = .ok (.aload_n 0, 1) := by decide +kernel
theorem dX9_holds_28 : decode cX9_holds 28 = .ok (.getfield 61, 3) := by decide +kernel
theorem dX9_holds_31 : decode cX9_holds 31 = .ok (.aload_n 0, 1) := by decide +kernel
theorem dX9_holds_32 : decode cX9_holds 32 = .ok (.getfield 39, 3) := by decide +kernel
theorem dX9_holds_35 : decode cX9_holds 35 = .ok (.iload_n 1, 1) := by decide +kernel
theorem dX9_holds_36 : decode cX9_holds 36 = .ok (.invokevirtual 208, 3) := by decide +kernel
theorem dX9_holds_39 : decode cX9_holds 39 = .ok (.ifCond .ne 8, 3) := by decide +kernel
theorem dX9_holds_42 : decode cX9_holds 42 = .ok (.aload_n 0, 1) := by decide +kernel
theorem dX9_holds_43 : decode cX9_holds 43 = .ok (.invokevirtual 181, 3) := by decide +kernel
theorem dX9_holds_46 : decode cX9_holds 46 = .ok (.ireturn, 1) := by decide +kernel
theorem dX9_holds_47 : decode cX9_holds 47 = .ok (.aload_n 0, 1) := by decide +kernel
theorem dX9_holds_48 : decode cX9_holds 48 = .ok (.getfield 25, 3) := by decide +kernel
theorem dX9_holds_51 : decode cX9_holds 51 = .ok (.aload_n 0, 1) := by decide +kernel
theorem dX9_holds_52 : decode cX9_holds 52 = .ok (.getfield 61, 3) := by decide +kernel
theorem dX9_holds_55 : decode cX9_holds 55 = .ok (.getfield 212, 3) := by decide +kernel
theorem dX9_holds_58 : decode cX9_holds 58 = .ok (.aload_n 0, 1) := by decide +kernel
theorem dX9_holds_59 : decode cX9_holds 59 = .ok (.iload_n 1, 1) := by decide +kernel
theorem dX9_holds_60 : decode cX9_holds 60 = .ok (.aload_n 0, 1) := by decide +kernel
theorem dX9_holds_61 : decode cX9_holds 61 = .ok (.getfield 21, 3) := by decide +kernel
theorem dX9_holds_64 : decode cX9_holds 64 = .ok (.invokevirtual 158, 3) := by decide +kernel
theorem dX9_holds_67 : decode cX9_holds 67 = .ok (.invokevirtual 117, 3) := by decide +kernel
theorem dX9_holds_70 : decode cX9_holds 70 = .ok (.ifCond .ne 7, 3) := by decide +kernel
theorem dX9_holds_73 : decode cX9_holds 73 = .ok (.iconst 1, 1) := by decide +kernel
theorem dX9_holds_74 : decode cX9_holds 74 = .ok (.goto 4, 3) := by decide +kernel
theorem dX9_holds_77 : decode cX9_holds 77 = .ok (.iconst 0, 1) := by decide +kernel
theorem dX9_holds_78 : decode cX9_holds 78 = .ok (.ireturn, 1) := by decide +kernel
theorem dX9_determinant_0 : decode cX9_determinant 0 = .ok (.iload_n 1, 1) := by decide +kernel
theorem dX9_determinant_1 : decode cX9_determinant 1 = .ok (.ifCond .lt 8, 3) := by decide +kernel
theorem dX9_determinant_4 : decode cX9_determinant 4 = .ok (.iload_n 1, 1) := by decide +kernel
theorem dX9_determinant_5 : decode cX9_determinant 5 = .ok (.iconst 2, 1) := by decide +kernel
theorem dX9_determinant_6 : decode cX9_determinant 6 = .ok (.if_icmp .le 5, 3) := by decide +kernel
theorem dX9_determinant_9 : decode cX9_determinant 9 = .ok (.iconst (-1), 1) := by decide +kernel
theorem dX9_determinant_10 : decode cX9_determinant 10 = .ok (.ireturn, 1) := by decide +kernel
theorem dX9_determinant_11 : decode cX9_determinant 11 = .ok (.aload_n 0, 1) := by decide +kernel
theorem dX9_determinant_12 : decode cX9_determinant 12 = .ok (.invokevirtual 81, 3) := by decide +kernel
theorem dX9_determinant_15 : decode cX9_determinant 15 = .ok (.ifCond .eq 6, 3) := by decide +kernel
theorem dX9_determinant_18 : decode cX9_determinant 18 = .ok (.bipush (-4), 2) := by decide +kernel
theorem dX9_determinant_20 : decode cX9_determinant 20 = .ok (.ireturn, 1) := by decide +kernel
theorem dX9_determinant_21 : decode cX9_determinant 21 = .ok (.aload_n 0, 1) := by decide +kernel
theorem dX9_determinant_22 : decode cX9_determinant 22 = .ok (.getfield 35, 3) := by decide +kernel
theorem dX9_determinant_25 : decode cX9_determinant 25 = .ok (.aload_n 0, 1) := by decide +kernel
theorem dX9_determinant_26 : decode cX9_determinant 26 = .ok (.getfield 85, 3) := by decide +kernel
theorem dX9_determinant_29 : decode cX9_determinant 29 = .ok (.aaload, 1) := by decide +kernel
theorem dX9_determinant_30 : decode cX9_determinant 30 = .ok (.astore_n 2, 1) := by decide +kernel
theorem dX9_determinant_31 : decode cX9_determinant 31 = .ok (.iload_n 1, 1) := by decide +kernel
theorem dX9_determinant_32 : decode cX9_determinant 32 = .ok (.iconst 2, 1) := by decide +kernel
theorem dX9_determinant_33 : decode cX9_determinant 33 = .ok (.if_icmp .ne 20, 3) := by decide +kernel
theorem dX9_determinant_36 : decode cX9_determinant 36 = .ok (.aload_n 0, 1) := by decide +kernel
theorem dX9_determinant_37 : decode cX9_determinant 37 = .ok (.aload_n 0, 1) := by decide +kernel
theorem dX9_determinant_38 : decode cX9_determinant 38 = .ok (.getfield 54, 3) := by decide +kernel
theorem dX9_determinant_41 : decode cX9_determinant 41 = .ok (.aload_n 0, 1) := by decide +kernel
theorem dX9_determinant_42 : decode cX9_determinant 42 = .ok (.getfield 39, 3) := by decide +kernel
theorem dX9_determinant_45 : decode cX9_determinant 45 = .ok (.aload_n 2, 1) := by decide +kernel
theorem dX9_determinant_46 : decode cX9_determinant 46 = .ok (.invokevirtual 216, 3) := by decide +kernel
theorem dX9_determinant_49 : decode cX9_determinant 49 = .ok (.invokevirtual 92, 3) := by decide +kernel
theorem dX9_determinant_52 : decode cX9_determinant 52 = .ok (.ireturn, 1) := by decide +kernel
theorem dX9_determinant_53 : decode cX9_determinant 53 = .ok (.aload_n 0, 1) := by decide +kernel
theorem dX9_determinant_54 : decode cX9_determinant 54 = .ok (.aload_n 0, 1) := by decide +kernel
theorem dX9_determinant_55 : decode cX9_determinant 55 = .ok (.getfield 47, 3) := by decide +kernel
theorem dX9_determinant_58 : decode cX9_determinant 58 = .ok (.aload_n 0, 1) := by decide +kernel
theorem dX9_determinant_59 : decode cX9_determinant 59 = .ok (.getfield 39, 3) := by decide +kernel
theorem dX9_determinant_62 : decode cX9_determinant 62 = .ok (.iload_n 1, 1) := by decide +kernel
theorem dX9_determinant_63 : decode cX9_determinant 63 = .ok (.aload_n 0, 1) := by decide +kernel
theorem dX9_determinant_64 : decode cX9_determinant 64 = .ok (.getfield 21, 3) := by decide +kernel
theorem dX9_determinant_67 : decode cX9_determinant 67 = .ok (.invokevirtual 173, 3) := by decide +kernel
theorem dX9_determinant_70 : decode cX9_determinant 70 = .ok (.ifCond .eq 22, 3) := by decide +kernel
theorem dX9_determinant_73 : decode cX9_determinant 73 = .ok (.aload_n 0, 1) := by decide +kernel
theorem dX9_determinant_74 : decode cX9_determinant 74 = .ok (.getfield 54, 3) := by decide +kernel
theorem dX9_determinant_77 : decode cX9_determinant 77 = .ok (.aload_n 0, 1) := by decide +kernel
theorem dX9_determinant_78 : decode cX9_determinant 78 = .ok (.getfield 47, 3) := by decide +kernel
theorem dX9_determinant_81 : decode cX9_determinant 81 = .ok (.aload_n 2, 1) := by decide +kernel
theorem dX9_determinant_82 : decode cX9_determinant 82 = .ok (.invokevirtual 220, 3) := by decide +kernel
theorem dX9_determinant_85 : decode cX9_determinant 85 = .ok (.ifCond .eq 7, 3) := by decide +kernel
theorem dX9_determinant_88 : decode cX9_determinant 88 = .ok (.iconst 1, 1) := by decide +kernel
theorem dX9_determinant_89 : decode cX9_determinant 89 = .ok (.goto 4, 3) := by decide +kernel
theorem dX9_determinant_92 : decode cX9_determinant 92 = .ok (.iconst 0, 1) := by decide +kernel
theorem dX9_determinant_93 : decode cX9_determinant 93 = .ok (.invokevirtual 92, 3) := by decide +kernel
theorem dX9_determinant_96 : decode cX9_determinant 96 = .ok (.ireturn, 1) := by decide +kernel
theorem dX9_rest_0 : decode cX9_rest 0 = .ok (.aload_n 0, 1) := by decide +kernel
theorem dX9_rest_1 : decode cX9_rest 1 = .ok (.iload_n 1, 1) := by decide +kernel
theorem dX9_rest_2 : decode cX9_rest 2 = .ok (.invokevirtual 96, 3) := by decide +kernel
theorem dX9_rest_5 : decode cX9_rest 5 = .ok (.ifCond .eq 10, 3) := by decide +kernel
theorem dX9_rest_8 : decode cX9_rest 8 = .ok (.iload_n 2, 1) := by decide +kernel
theorem dX9_rest_9 : decode cX9_rest 9 = .ok (.invokestatic 224, 3) := by decide +kernel
theorem dX9_rest_12 : decode cX9_rest 12 = .ok (.ifCond .ne 5, 3) := by decide +kernel
theorem dX9_rest_15 : decode cX9_rest 15 = .ok (.iconst (-1), 1) := by decide +kernel
theorem dX9_rest_16 : decode cX9_rest 16 = .ok (.ireturn, 1) := by decide +kernel
theorem dX9_rest_17 : decode cX9_rest 17 = .ok (.aload_n 0, 1) := by decide +kernel
theorem dX9_rest_18 : decode cX9_rest 18 = .ok (.getfield 35, 3) := by decide +kernel
theorem dX9_rest_21 : decode cX9_rest 21 = .ok (.iload_n 1, 1) := by decide +kernel
theorem dX9_rest_22 : decode cX9_rest 22 = .ok (.aaload, 1) := by decide +kernel
theorem dX9_rest_23 : decode cX9_rest 23 = .ok (.getfield 134, 3) := by decide +kernel
theorem dX9_rest_26 : decode cX9_rest 26 = .ok (.iload_n 2, 1) := by decide +kernel
theorem dX9_rest_27 : decode cX9_rest 27 = .ok (.invokevirtual 229, 3) := by decide +kernel
theorem dX9_rest_30 : decode cX9_rest 30 = .ok (.istore_n 3, 1) := by decide +kernel
theorem dX9_rest_31 : decode cX9_rest 31 = .ok (.iload_n 3, 1) := by decide +kernel
theorem dX9_rest_32 : decode cX9_rest 32 = .ok (.ifCond .ne 6, 3) := by decide +kernel
theorem dX9_rest_35 : decode cX9_rest 35 = .ok (.bipush (-2), 2) := by decide +kernel
theorem dX9_rest_37 : decode cX9_rest 37 = .ok (.ireturn, 1) := by decide +kernel
theorem dX9_rest_38 : decode cX9_rest 38 = .ok (.aload_n 0, 1) := by decide +kernel
theorem dX9_rest_39 : decode cX9_rest 39 = .ok (.getfield 35, 3) := by decide +kernel
theorem dX9_rest_42 : decode cX9_rest 42 = .ok (.iload_n 1, 1) := by decide +kernel
theorem dX9_rest_43 : decode cX9_rest 43 = .ok (.aaload, 1) := by decide +kernel
theorem dX9_rest_44 : decode cX9_rest 44 = .ok (.getfield 125, 3) := by decide +kernel
theorem dX9_rest_47 : decode cX9_rest 47 = .ok (.iload_n 2, 1) := by decide +kernel
theorem dX9_rest_48 : decode cX9_rest 48 = .ok (.invokevirtual 229, 3) := by decide +kernel
theorem dX9_rest_51 : decode cX9_rest 51 = .ok (.istore 4, 2) := by decide +kernel
theorem dX9_rest_53 : decode cX9_rest 53 = .ok (.iload 4, 2) := by decide +kernel
theorem dX9_rest_55 : decode cX9_rest 55 = .ok (.i2l, 1) := by decide +kernel
theorem dX9_rest_56 : decode cX9_rest 56 = .ok (.iload_n 3, 1) := by decide +kernel
theorem dX9_rest_57 : decode cX9_rest 57 = .ok (.iload_n 2, 1) := by decide +kernel
theorem dX9_rest_58 : decode cX9_rest 58 = .ok (.invokestatic 233, 3) := by decide +kernel
theorem dX9_rest_61 : decode cX9_rest 61 = .ok (.lmul, 1) := by decide +kernel
theorem dX9_rest_62 : decode cX9_rest 62 = .ok (.iload_n 2, 1) := by decide +kernel
theorem dX9_rest_63 : decode cX9_rest 63 = .ok (.i2l, 1) := by decide +kernel
theorem dX9_rest_64 : decode cX9_rest 64 = .ok (.lrem, 1) := by decide +kernel
theorem dX9_rest_65 : decode cX9_rest 65 = .ok (.l2i, 1) := by decide +kernel
theorem dX9_rest_66 : decode cX9_rest 66 = .ok (.istore 5, 2) := by decide +kernel
theorem dX9_rest_68 : decode cX9_rest 68 = .ok (.aload_n 0, 1) := by decide +kernel
theorem dX9_rest_69 : decode cX9_rest 69 = .ok (.getfield 35, 3) := by decide +kernel
theorem dX9_rest_72 : decode cX9_rest 72 = .ok (.iload_n 1, 1) := by decide +kernel
theorem dX9_rest_73 : decode cX9_rest 73 = .ok (.aaload, 1) := by decide +kernel
theorem dX9_rest_74 : decode cX9_rest 74 = .ok (.getfield 121, 3) := by decide +kernel
theorem dX9_rest_77 : decode cX9_rest 77 = .ok (.ifCond .eq 15, 3) := by decide +kernel
theorem dX9_rest_80 : decode cX9_rest 80 = .ok (.iload 5, 2) := by decide +kernel
theorem dX9_rest_82 : decode cX9_rest 82 = .ok (.ifCond .eq 10, 3) := by decide +kernel
theorem dX9_rest_85 : decode cX9_rest 85 = .ok (.iload_n 2, 1) := by decide +kernel
theorem dX9_rest_86 : decode cX9_rest 86 = .ok (.iload 5, 2) := by decide +kernel
theorem dX9_rest_88 : decode cX9_rest 88 = .ok (.isub, 1) := by decide +kernel
theorem dX9_rest_89 : decode cX9_rest 89 = .ok (.goto 5, 3) := by decide +kernel
theorem dX9_rest_92 : decode cX9_rest 92 = .ok (.iload 5, 2) := by decide +kernel
theorem dX9_rest_94 : decode cX9_rest 94 = .ok (.ireturn, 1) := by decide +kernel
theorem dX9_meet_0 : decode cX9_meet 0 = .ok (.iload_n 1, 1) := by decide +kernel
theorem dX9_meet_1 : decode cX9_meet 1 = .ok (.invokestatic 224, 3) := by decide +kernel
theorem dX9_meet_4 : decode cX9_meet 4 = .ok (.ifCond .eq 12, 3) := by decide +kernel
theorem dX9_meet_7 : decode cX9_meet 7 = .ok (.iload_n 2, 1) := by decide +kernel
theorem dX9_meet_8 : decode cX9_meet 8 = .ok (.ifCond .lt 8, 3) := by decide +kernel
theorem dX9_meet_11 : decode cX9_meet 11 = .ok (.iload_n 2, 1) := by decide +kernel
theorem dX9_meet_12 : decode cX9_meet 12 = .ok (.iload_n 1, 1) := by decide +kernel
theorem dX9_meet_13 : decode cX9_meet 13 = .ok (.if_icmp .lt 5, 3) := by decide +kernel
theorem dX9_meet_16 : decode cX9_meet 16 = .ok (.iconst (-1), 1) := by decide +kernel
theorem dX9_meet_17 : decode cX9_meet 17 = .ok (.ireturn, 1) := by decide +kernel
theorem dX9_meet_18 : decode cX9_meet 18 = .ok (.aload_n 0, 1) := by decide +kernel
theorem dX9_meet_19 : decode cX9_meet 19 = .ok (.getfield 70, 3) := by decide +kernel
theorem dX9_meet_22 : decode cX9_meet 22 = .ok (.iload_n 1, 1) := by decide +kernel
theorem dX9_meet_23 : decode cX9_meet 23 = .ok (.invokevirtual 237, 3) := by decide +kernel
theorem dX9_meet_26 : decode cX9_meet 26 = .ok (.ifCond .eq 6, 3) := by decide +kernel
theorem dX9_meet_29 : decode cX9_meet 29 = .ok (.bipush (-5), 2) := by decide +kernel
theorem dX9_meet_31 : decode cX9_meet 31 = .ok (.ireturn, 1) := by decide +kernel
theorem dX9_meet_32 : decode cX9_meet 32 = .ok (.aload_n 0, 1) := by decide +kernel
theorem dX9_meet_33 : decode cX9_meet 33 = .ok (.getfield 70, 3) := by decide +kernel
theorem dX9_meet_36 : decode cX9_meet 36 = .ok (.iload_n 1, 1) := by decide +kernel
theorem dX9_meet_37 : decode cX9_meet 37 = .ok (.iload_n 2, 1) := by decide +kernel
theorem dX9_meet_38 : decode cX9_meet 38 = .ok (.invokevirtual 240, 3) := by decide +kernel
theorem dX9_meet_41 : decode cX9_meet 41 = .ok (.ifCond .eq 13, 3) := by decide +kernel
theorem dX9_meet_44 : decode cX9_meet 44 = .ok (.aload_n 0, 1) := by decide +kernel
theorem dX9_meet_45 : decode cX9_meet 45 = .ok (.getfield 70, 3) := by decide +kernel
theorem dX9_meet_48 : decode cX9_meet 48 = .ok (.getfield 243, 3) := by decide +kernel
theorem dX9_meet_51 : decode cX9_meet 51 = .ok (.goto 7, 3) := by decide +kernel
theorem dX9_meet_54 : decode cX9_meet 54 = .ok (.aload_n 0, 1) := by decide +kernel
theorem dX9_meet_55 : decode cX9_meet 55 = .ok (.invokevirtual 181, 3) := by decide +kernel
theorem dX9_meet_58 : decode cX9_meet 58 = .ok (.ireturn, 1) := by decide +kernel
theorem dX9_joined_0 : decode cX9_joined 0 = .ok (.iload_n 1, 1) := by decide +kernel
theorem dX9_joined_1 : decode cX9_joined 1 = .ok (.ifCond .eq 10, 3) := by decide +kernel
theorem dX9_joined_4 : decode cX9_joined 4 = .ok (.iload_n 1, 1) := by decide +kernel
theorem dX9_joined_5 : decode cX9_joined 5 = .ok (.iconst 1, 1) := by decide +kernel
theorem dX9_joined_6 : decode cX9_joined 6 = .ok (.if_icmp .eq 5, 3) := by decide +kernel
theorem dX9_joined_9 : decode cX9_joined 9 = .ok (.iconst (-1), 1) := by decide +kernel
theorem dX9_joined_10 : decode cX9_joined 10 = .ok (.ireturn, 1) := by decide +kernel
theorem dX9_joined_11 : decode cX9_joined 11 = .ok (.aload_n 0, 1) := by decide +kernel
theorem dX9_joined_12 : decode cX9_joined 12 = .ok (.invokevirtual 81, 3) := by decide +kernel
theorem dX9_joined_15 : decode cX9_joined 15 = .ok (.ifCond .eq 6, 3) := by decide +kernel
theorem dX9_joined_18 : decode cX9_joined 18 = .ok (.bipush (-4), 2) := by decide +kernel
theorem dX9_joined_20 : decode cX9_joined 20 = .ok (.ireturn, 1) := by decide +kernel
theorem dX9_joined_21 : decode cX9_joined 21 = .ok (.aload_n 0, 1) := by decide +kernel
theorem dX9_joined_22 : decode cX9_joined 22 = .ok (.getfield 35, 3) := by decide +kernel
theorem dX9_joined_25 : decode cX9_joined 25 = .ok (.aload_n 0, 1) := by decide +kernel
theorem dX9_joined_26 : decode cX9_joined 26 = .ok (.getfield 85, 3) := by decide +kernel
theorem dX9_joined_29 : decode cX9_joined 29 = .ok (.aaload, 1) := by decide +kernel
theorem dX9_joined_30 : decode cX9_joined 30 = .ok (.iload_n 1, 1) := by decide +kernel
theorem dX9_joined_31 : decode cX9_joined 31 = .ok (.ifCond .ne 13, 3) := by decide +kernel
theorem dX9_joined_34 : decode cX9_joined 34 = .ok (.aload_n 0, 1) := by decide +kernel
theorem dX9_joined_35 : decode cX9_joined 35 = .ok (.getfield 70, 3) := by decide +kernel
theorem dX9_joined_38 : decode cX9_joined 38 = .ok (.getfield 246, 3) := by decide +kernel
theorem dX9_joined_41 : decode cX9_joined 41 = .ok (.goto 10, 3) := by decide +kernel
theorem dX9_joined_44 : decode cX9_joined 44 = .ok (.aload_n 0, 1) := by decide +kernel
theorem dX9_joined_45 : decode cX9_joined 45 = .ok (.getfield 70, 3) := by decide +kernel
theorem dX9_joined_48 : decode cX9_joined 48 = .ok (.getfield 249, 3) := by decide +kernel
theorem dX9_joined_51 : decode cX9_joined 51 = .ok (.invokevirtual 252, 3) := by decide +kernel
theorem dX9_joined_54 : decode cX9_joined 54 = .ok (.aload_n 0, 1) := by decide +kernel
theorem dX9_joined_55 : decode cX9_joined 55 = .ok (.iconst 1, 1) := by decide +kernel
theorem dX9_joined_56 : decode cX9_joined 56 = .ok (.invokevirtual 92, 3) := by decide +kernel
theorem dX9_joined_59 : decode cX9_joined 59 = .ok (.ireturn, 1) := by decide +kernel
theorem dX9_recover_0 : decode cX9_recover 0 = .ok (.aload_n 0, 1) := by decide +kernel
theorem dX9_recover_1 : decode cX9_recover 1 = .ok (.invokevirtual 81, 3) := by decide +kernel
theorem dX9_recover_4 : decode cX9_recover 4 = .ok (.ifCond .eq 6, 3) := by decide +kernel
theorem dX9_recover_7 : decode cX9_recover 7 = .ok (.bipush (-4), 2) := by decide +kernel
theorem dX9_recover_9 : decode cX9_recover 9 = .ok (.ireturn, 1) := by decide +kernel
theorem dX9_recover_10 : decode cX9_recover 10 = .ok (.aload_n 0, 1) := by decide +kernel
theorem dX9_recover_11 : decode cX9_recover 11 = .ok (.getfield 70, 3) := by decide +kernel
theorem dX9_recover_14 : decode cX9_recover 14 = .ok (.aload_n 0, 1) := by decide +kernel
theorem dX9_recover_15 : decode cX9_recover 15 = .ok (.getfield 35, 3) := by decide +kernel
theorem dX9_recover_18 : decode cX9_recover 18 = .ok (.aload_n 0, 1) := by decide +kernel
theorem dX9_recover_19 : decode cX9_recover 19 = .ok (.getfield 85, 3) := by decide +kernel
theorem dX9_recover_22 : decode cX9_recover 22 = .ok (.aaload, 1) := by decide +kernel
theorem dX9_recover_23 : decode cX9_recover 23 = .ok (.invokevirtual 256, 3) := by decide +kernel
theorem dX9_recover_26 : decode cX9_recover 26 = .ok (.ifCond .eq 11, 3) := by decide +kernel
theorem dX9_recover_29 : decode cX9_recover 29 = .ok (.aload_n 0, 1) := by decide +kernel
theorem dX9_recover_30 : decode cX9_recover 30 = .ok (.iconst 1, 1) := by decide +kernel
theorem dX9_recover_31 : decode cX9_recover 31 = .ok (.invokevirtual 92, 3) := by decide +kernel
theorem dX9_recover_34 : decode cX9_recover 34 = .ok (.goto 5, 3) := by decide +kernel
theorem dX9_recover_37 : decode cX9_recover 37 = .ok (.bipush (-6), 2) := by decide +kernel
theorem dX9_recover_39 : decode cX9_recover 39 = .ok (.ireturn, 1) := by decide +kernel
theorem dX9_part_0 : decode cX9_part 0 = .ok (.aload_n 0, 1) := by decide +kernel
theorem dX9_part_1 : decode cX9_part 1 = .ok (.getfield 70, 3) := by decide +kernel
theorem dX9_part_4 : decode cX9_part 4 = .ok (.getfield 243, 3) := by decide +kernel
theorem dX9_part_7 : decode cX9_part 7 = .ok (.istore_n 1, 1) := by decide +kernel
theorem dX9_part_8 : decode cX9_part 8 = .ok (.aload_n 0, 1) := by decide +kernel
theorem dX9_part_9 : decode cX9_part 9 = .ok (.getfield 70, 3) := by decide +kernel
theorem dX9_part_12 : decode cX9_part 12 = .ok (.invokevirtual 260, 3) := by decide +kernel
theorem dX9_part_15 : decode cX9_part 15 = .ok (.iload_n 1, 1) := by decide +kernel
theorem dX9_part_16 : decode cX9_part 16 = .ok (.ireturn, 1) := by decide +kernel
theorem dX9_decimals_0 : decode cX9_decimals 0 = .ok (.aload_n 0, 1) := by decide +kernel
theorem dX9_decimals_1 : decode cX9_decimals 1 = .ok (.iload_n 1, 1) := by decide +kernel
theorem dX9_decimals_2 : decode cX9_decimals 2 = .ok (.invokevirtual 96, 3) := by decide +kernel
theorem dX9_decimals_5 : decode cX9_decimals 5 = .ok (.ifCond .eq 13, 3) := by decide +kernel
theorem dX9_decimals_8 : decode cX9_decimals 8 = .ok (.iload_n 2, 1) := by decide +kernel
theorem dX9_decimals_9 : decode cX9_decimals 9 = .ok (.ifCond .lt 9, 3) := by decide +kernel
theorem dX9_decimals_12 : decode cX9_decimals 12 = .ok (.iload_n 2, 1) := by decide +kernel
theorem dX9_decimals_13 : decode cX9_decimals 13 = .ok (.bipush 30, 2) := by decide +kernel
theorem dX9_decimals_15 : decode cX9_decimals 15 = .ok (.if_icmp .le 5, 3) := by decide +kernel
theorem dX9_decimals_18 : decode cX9_decimals 18 = .ok (.iconst (-1), 1) := by decide +kernel
theorem dX9_decimals_19 : decode cX9_decimals 19 = .ok (.ireturn, 1) := by decide +kernel
theorem dX9_decimals_20 : decode cX9_decimals 20 = .ok (.aload_n 0, 1) := by decide +kernel
theorem dX9_decimals_21 : decode cX9_decimals 21 = .ok (.getfield 77, 3) := by decide +kernel
theorem dX9_decimals_24 : decode cX9_decimals 24 = .ok (.aload_n 0, 1) := by decide +kernel
theorem dX9_decimals_25 : decode cX9_decimals 25 = .ok (.getfield 35, 3) := by decide +kernel
theorem dX9_decimals_28 : decode cX9_decimals 28 = .ok (.iload_n 1, 1) := by decide +kernel
theorem dX9_decimals_29 : decode cX9_decimals 29 = .ok (.aaload, 1) := by decide +kernel
theorem dX9_decimals_30 : decode cX9_decimals 30 = .ok (.iload_n 2, 1) := by decide +kernel
theorem dX9_decimals_31 : decode cX9_decimals 31 = .ok (.iload_n 3, 1) := by decide +kernel
theorem dX9_decimals_32 : decode cX9_decimals 32 = .ok (.invokevirtual 261, 3) := by decide +kernel
theorem dX9_decimals_35 : decode cX9_decimals 35 = .ok (.aload_n 0, 1) := by decide +kernel
theorem dX9_decimals_36 : decode cX9_decimals 36 = .ok (.getfield 77, 3) := by decide +kernel
theorem dX9_decimals_39 : decode cX9_decimals 39 = .ok (.getfield 265, 3) := by decide +kernel
theorem dX9_decimals_42 : decode cX9_decimals 42 = .ok (.ireturn, 1) := by decide +kernel
theorem dX9_sign_0 : decode cX9_sign 0 = .ok (.iload_n 1, 1) := by decide +kernel
theorem dX9_sign_1 : decode cX9_sign 1 = .ok (.ifCond .lt 14, 3) := by decide +kernel
theorem dX9_sign_4 : decode cX9_sign 4 = .ok (.iload_n 1, 1) := by decide +kernel
theorem dX9_sign_5 : decode cX9_sign 5 = .ok (.aload_n 0, 1) := by decide +kernel
theorem dX9_sign_6 : decode cX9_sign 6 = .ok (.getfield 77, 3) := by decide +kernel
theorem dX9_sign_9 : decode cX9_sign 9 = .ok (.getfield 265, 3) := by decide +kernel
theorem dX9_sign_12 : decode cX9_sign 12 = .ok (.if_icmp .lt 5, 3) := by decide +kernel
theorem dX9_sign_15 : decode cX9_sign 15 = .ok (.iconst (-1), 1) := by decide +kernel
theorem dX9_sign_16 : decode cX9_sign 16 = .ok (.ireturn, 1) := by decide +kernel
theorem dX9_sign_17 : decode cX9_sign 17 = .ok (.aload_n 0, 1) := by decide +kernel
theorem dX9_sign_18 : decode cX9_sign 18 = .ok (.getfield 77, 3) := by decide +kernel
theorem dX9_sign_21 : decode cX9_sign 21 = .ok (.getfield 266, 3) := by decide +kernel
theorem dX9_sign_24 : decode cX9_sign 24 = .ok (.aload_n 0, 1) := by decide +kernel
theorem dX9_sign_25 : decode cX9_sign 25 = .ok (.getfield 77, 3) := by decide +kernel
theorem dX9_sign_28 : decode cX9_sign 28 = .ok (.getfield 265, 3) := by decide +kernel
theorem dX9_sign_31 : decode cX9_sign 31 = .ok (.iconst 1, 1) := by decide +kernel
theorem dX9_sign_32 : decode cX9_sign 32 = .ok (.isub, 1) := by decide +kernel
theorem dX9_sign_33 : decode cX9_sign 33 = .ok (.iload_n 1, 1) := by decide +kernel
theorem dX9_sign_34 : decode cX9_sign 34 = .ok (.isub, 1) := by decide +kernel
theorem dX9_sign_35 : decode cX9_sign 35 = .ok (.baload, 1) := by decide +kernel
theorem dX9_sign_36 : decode cX9_sign 36 = .ok (.ireturn, 1) := by decide +kernel
theorem dX9_count_0 : decode cX9_count 0 = .ok (.iload_n 1, 1) := by decide +kernel
theorem dX9_count_1 : decode cX9_count 1 = .ok (.tableswitch 54 0 3 #[31, 36, 44, 49], 31) := by decide +kernel
theorem dX9_count_32 : decode cX9_count 32 = .ok (.aload_n 0, 1) := by decide +kernel
theorem dX9_count_33 : decode cX9_count 33 = .ok (.getfield 85, 3) := by decide +kernel
theorem dX9_count_36 : decode cX9_count 36 = .ok (.ireturn, 1) := by decide +kernel
theorem dX9_count_37 : decode cX9_count 37 = .ok (.aload_n 0, 1) := by decide +kernel
theorem dX9_count_38 : decode cX9_count 38 = .ok (.getfield 70, 3) := by decide +kernel
theorem dX9_count_41 : decode cX9_count 41 = .ok (.getfield 243, 3) := by decide +kernel
theorem dX9_count_44 : decode cX9_count 44 = .ok (.ireturn, 1) := by decide +kernel
theorem dX9_count_45 : decode cX9_count 45 = .ok (.aload_n 0, 1) := by decide +kernel
theorem dX9_count_46 : decode cX9_count 46 = .ok (.getfield 21, 3) := by decide +kernel
theorem dX9_count_49 : decode cX9_count 49 = .ok (.ireturn, 1) := by decide +kernel
theorem dX9_count_50 : decode cX9_count 50 = .ok (.aload_n 0, 1) := by decide +kernel
theorem dX9_count_51 : decode cX9_count 51 = .ok (.getfield 270, 3) := by decide +kernel
theorem dX9_count_54 : decode cX9_count 54 = .ok (.ireturn, 1) := by decide +kernel
theorem dX9_count_55 : decode cX9_count 55 = .ok (.iconst (-1), 1) := by decide +kernel
theorem dX9_count_56 : decode cX9_count 56 = .ok (.ireturn, 1) := by decide +kernel
theorem dX9_clear_0 : decode cX9_clear 0 = .ok (.aload_n 0, 1) := by decide +kernel
theorem dX9_clear_1 : decode cX9_clear 1 = .ok (.getfield 85, 3) := by decide +kernel
theorem dX9_clear_4 : decode cX9_clear 4 = .ok (.istore_n 1, 1) := by decide +kernel
theorem dX9_clear_5 : decode cX9_clear 5 = .ok (.aload_n 0, 1) := by decide +kernel
theorem dX9_clear_6 : decode cX9_clear 6 = .ok (.iconst 0, 1) := by decide +kernel
theorem dX9_clear_7 : decode cX9_clear 7 = .ok (.putfield 85, 3) := by decide +kernel
theorem dX9_clear_10 : decode cX9_clear 10 = .ok (.iconst 0, 1) := by decide +kernel
theorem dX9_clear_11 : decode cX9_clear 11 = .ok (.istore_n 2, 1) := by decide +kernel
theorem dX9_clear_12 : decode cX9_clear 12 = .ok (.iload_n 2, 1) := by decide +kernel
theorem dX9_clear_13 : decode cX9_clear 13 = .ok (.aload_n 0, 1) := by decide +kernel
theorem dX9_clear_14 : decode cX9_clear 14 = .ok (.getfield 39, 3) := by decide +kernel
theorem dX9_clear_17 : decode cX9_clear 17 = .ok (.arraylength, 1) := by decide +kernel
theorem dX9_clear_18 : decode cX9_clear 18 = .ok (.if_icmp .ge 18, 3) := by decide +kernel
theorem dX9_clear_21 : decode cX9_clear 21 = .ok (.aload_n 0, 1) := by decide +kernel
theorem dX9_clear_22 : decode cX9_clear 22 = .ok (.getfield 39, 3) := by decide +kernel
theorem dX9_clear_25 : decode cX9_clear 25 = .ok (.iload_n 2, 1) := by decide +kernel
theorem dX9_clear_26 : decode cX9_clear 26 = .ok (.aaload, 1) := by decide +kernel
theorem dX9_clear_27 : decode cX9_clear 27 = .ok (.invokevirtual 273, 3) := by decide +kernel
theorem dX9_clear_30 : decode cX9_clear 30 = .ok (.iinc 2 1, 3) := by decide +kernel
theorem dX9_clear_33 : decode cX9_clear 33 = .ok (.goto (-21), 3) := by decide +kernel
theorem dX9_clear_36 : decode cX9_clear 36 = .ok (.aload_n 0, 1) := by decide +kernel
theorem dX9_clear_37 : decode cX9_clear 37 = .ok (.getfield 61, 3) := by decide +kernel
theorem dX9_clear_40 : decode cX9_clear 40 = .ok (.invokevirtual 170, 3) := by decide +kernel
theorem dX9_clear_43 : decode cX9_clear 43 = .ok (.aload_n 0, 1) := by decide +kernel
theorem dX9_clear_44 : decode cX9_clear 44 = .ok (.getfield 70, 3) := by decide +kernel
theorem dX9_clear_47 : decode cX9_clear 47 = .ok (.invokevirtual 260, 3) := by decide +kernel
theorem dX9_clear_50 : decode cX9_clear 50 = .ok (.iload_n 1, 1) := by decide +kernel
theorem dX9_clear_51 : decode cX9_clear 51 = .ok (.ireturn, 1) := by decide +kernel
theorem dX9_isNumber_0 : decode cX9_isNumber 0 = .ok (.iload_n 1, 1) := by decide +kernel
theorem dX9_isNumber_1 : decode cX9_isNumber 1 = .ok (.ifCond .lt 15, 3) := by decide +kernel
theorem dX9_isNumber_4 : decode cX9_isNumber 4 = .ok (.iload_n 1, 1) := by decide +kernel
theorem dX9_isNumber_5 : decode cX9_isNumber 5 = .ok (.aload_n 0, 1) := by decide +kernel
theorem dX9_isNumber_6 : decode cX9_isNumber 6 = .ok (.getfield 85, 3) := by decide +kernel
theorem dX9_isNumber_9 : decode cX9_isNumber 9 = .ok (.if_icmp .ge 7, 3) := by decide +kernel
theorem dX9_isNumber_12 : decode cX9_isNumber 12 = .ok (.iconst 1, 1) := by decide +kernel
theorem dX9_isNumber_13 : decode cX9_isNumber 13 = .ok (.goto 4, 3) := by decide +kernel
theorem dX9_isNumber_16 : decode cX9_isNumber 16 = .ok (.iconst 0, 1) := by decide +kernel
theorem dX9_isNumber_17 : decode cX9_isNumber 17 = .ok (.ireturn, 1) := by decide +kernel
theorem dX9_isFull_0 : decode cX9_isFull 0 = .ok (.aload_n 0, 1) := by decide +kernel
theorem dX9_isFull_1 : decode cX9_isFull 1 = .ok (.getfield 85, 3) := by decide +kernel
theorem dX9_isFull_4 : decode cX9_isFull 4 = .ok (.bipush 40, 2) := by decide +kernel
theorem dX9_isFull_6 : decode cX9_isFull 6 = .ok (.if_icmp .lt 7, 3) := by decide +kernel
theorem dX9_isFull_9 : decode cX9_isFull 9 = .ok (.iconst 1, 1) := by decide +kernel
theorem dX9_isFull_10 : decode cX9_isFull 10 = .ok (.goto 4, 3) := by decide +kernel
theorem dX9_isFull_13 : decode cX9_isFull 13 = .ok (.iconst 0, 1) := by decide +kernel
theorem dX9_isFull_14 : decode cX9_isFull 14 = .ok (.ireturn, 1) := by decide +kernel
theorem dX9_isEntry_0 : decode cX9_isEntry 0 = .ok (.iload_n 1, 1) := by decide +kernel
theorem dX9_isEntry_1 : decode cX9_isEntry 1 = .ok (.ifCond .lt 27, 3) := by decide +kernel
theorem dX9_isEntry_4 : decode cX9_isEntry 4 = .ok (.iload_n 1, 1) := by decide +kernel
theorem dX9_isEntry_5 : decode cX9_isEntry 5 = .ok (.aload_n 0, 1) := by decide +kernel
theorem dX9_isEntry_6 : decode cX9_isEntry 6 = .ok (.getfield 21, 3) := by decide +kernel
theorem dX9_isEntry_9 : decode cX9_isEntry 9 = .ok (.if_icmp .ge 19, 3) := by decide +kernel
theorem dX9_isEntry_12 : decode cX9_isEntry 12 = .ok (.iload_n 2, 1) := by decide +kernel
theorem dX9_isEntry_13 : decode cX9_isEntry 13 = .ok (.ifCond .lt 15, 3) := by decide +kernel
theorem dX9_isEntry_16 : decode cX9_isEntry 16 = .ok (.iload_n 2, 1) := by decide +kernel
theorem dX9_isEntry_17 : decode cX9_isEntry 17 = .ok (.aload_n 0, 1) := by decide +kernel
theorem dX9_isEntry_18 : decode cX9_isEntry 18 = .ok (.getfield 21, 3) := by decide +kernel
theorem dX9_isEntry_21 : decode cX9_isEntry 21 = .ok (.if_icmp .gt 7, 3) := by decide +kernel
theorem dX9_isEntry_24 : decode cX9_isEntry 24 = .ok (.iconst 1, 1) := by decide +kernel
theorem dX9_isEntry_25 : decode cX9_isEntry 25 = .ok (.goto 4, 3) := by decide +kernel
theorem dX9_isEntry_28 : decode cX9_isEntry 28 = .ok (.iconst 0, 1) := by decide +kernel
theorem dX9_isEntry_29 : decode cX9_isEntry 29 = .ok (.ireturn, 1) := by decide +kernel
theorem dX9_entryAt_0 : decode cX9_entryAt 0 = .ok (.aload_n 0, 1) := by decide +kernel
theorem dX9_entryAt_1 : decode cX9_entryAt 1 = .ok (.getfield 39, 3) := by decide +kernel
theorem dX9_entryAt_4 : decode cX9_entryAt 4 = .ok (.iload_n 1, 1) := by decide +kernel
theorem dX9_entryAt_5 : decode cX9_entryAt 5 = .ok (.aload_n 0, 1) := by decide +kernel
theorem dX9_entryAt_6 : decode cX9_entryAt 6 = .ok (.getfield 21, 3) := by decide +kernel
theorem dX9_entryAt_9 : decode cX9_entryAt 9 = .ok (.iconst 1, 1) := by decide +kernel
theorem dX9_entryAt_10 : decode cX9_entryAt 10 = .ok (.iadd, 1) := by decide +kernel
theorem dX9_entryAt_11 : decode cX9_entryAt 11 = .ok (.imul, 1) := by decide +kernel
theorem dX9_entryAt_12 : decode cX9_entryAt 12 = .ok (.iload_n 2, 1) := by decide +kernel
theorem dX9_entryAt_13 : decode cX9_entryAt 13 = .ok (.iadd, 1) := by decide +kernel
theorem dX9_entryAt_14 : decode cX9_entryAt 14 = .ok (.aaload, 1) := by decide +kernel
theorem dX9_entryAt_15 : decode cX9_entryAt 15 = .ok (.areturn, 1) := by decide +kernel
theorem dX9_keep_0 : decode cX9_keep 0 = .ok (.iload_n 1, 1) := by decide +kernel
theorem dX9_keep_1 : decode cX9_keep 1 = .ok (.ifCond .ne 8, 3) := by decide +kernel
theorem dX9_keep_4 : decode cX9_keep 4 = .ok (.aload_n 0, 1) := by decide +kernel
theorem dX9_keep_5 : decode cX9_keep 5 = .ok (.invokevirtual 181, 3) := by decide +kernel
theorem dX9_keep_8 : decode cX9_keep 8 = .ok (.ireturn, 1) := by decide +kernel
theorem dX9_keep_9 : decode cX9_keep 9 = .ok (.aload_n 0, 1) := by decide +kernel
theorem dX9_keep_10 : decode cX9_keep 10 = .ok (.dup, 1) := by decide +kernel
theorem dX9_keep_11 : decode cX9_keep 11 = .ok (.getfield 85, 3) := by decide +kernel
theorem dX9_keep_14 : decode cX9_keep 14 = .ok (.iconst 1, 1) := by decide +kernel
theorem dX9_keep_15 : decode cX9_keep 15 = .ok (.iadd, 1) := by decide +kernel
theorem dX9_keep_16 : decode cX9_keep 16 = .ok (.putfield 85, 3) := by decide +kernel
theorem dX9_keep_19 : decode cX9_keep 19 = .ok (.aload_n 0, 1) := by decide +kernel
theorem dX9_keep_20 : decode cX9_keep 20 = .ok (.getfield 85, 3) := by decide +kernel
theorem dX9_keep_23 : decode cX9_keep 23 = .ok (.iconst 1, 1) := by decide +kernel
theorem dX9_keep_24 : decode cX9_keep 24 = .ok (.isub, 1) := by decide +kernel
theorem dX9_keep_25 : decode cX9_keep 25 = .ok (.ireturn, 1) := by decide +kernel
theorem dX9_keepCopy_0 : decode cX9_keepCopy 0 = .ok (.aload_n 0, 1) := by decide +kernel
theorem dX9_keepCopy_1 : decode cX9_keepCopy 1 = .ok (.invokevirtual 81, 3) := by decide +kernel
theorem dX9_keepCopy_4 : decode cX9_keepCopy 4 = .ok (.ifCond .eq 6, 3) := by decide +kernel
theorem dX9_keepCopy_7 : decode cX9_keepCopy 7 = .ok (.bipush (-4), 2) := by decide +kernel
theorem dX9_keepCopy_9 : decode cX9_keepCopy 9 = .ok (.ireturn, 1) := by decide +kernel
theorem dX9_keepCopy_10 : decode cX9_keepCopy 10 = .ok (.aload_n 0, 1) := by decide +kernel
theorem dX9_keepCopy_11 : decode cX9_keepCopy 11 = .ok (.getfield 35, 3) := by decide +kernel
theorem dX9_keepCopy_14 : decode cX9_keepCopy 14 = .ok (.aload_n 0, 1) := by decide +kernel
theorem dX9_keepCopy_15 : decode cX9_keepCopy 15 = .ok (.getfield 85, 3) := by decide +kernel
theorem dX9_keepCopy_18 : decode cX9_keepCopy 18 = .ok (.aaload, 1) := by decide +kernel
theorem dX9_keepCopy_19 : decode cX9_keepCopy 19 = .ok (.aload_n 1, 1) := by decide +kernel
theorem dX9_keepCopy_20 : decode cX9_keepCopy 20 = .ok (.invokevirtual 162, 3) := by decide +kernel
theorem dX9_keepCopy_23 : decode cX9_keepCopy 23 = .ok (.aload_n 0, 1) := by decide +kernel
theorem dX9_keepCopy_24 : decode cX9_keepCopy 24 = .ok (.iconst 1, 1) := by decide +kernel
theorem dX9_keepCopy_25 : decode cX9_keepCopy 25 = .ok (.invokevirtual 92, 3) := by decide +kernel
theorem dX9_keepCopy_28 : decode cX9_keepCopy 28 = .ok (.ireturn, 1) := by decide +kernel
theorem dX9_grew_0 : decode cX9_grew 0 = .ok (.aload_n 0, 1) := by decide +kernel
theorem dX9_grew_1 : decode cX9_grew 1 = .ok (.dup, 1) := by decide +kernel
theorem dX9_grew_2 : decode cX9_grew 2 = .ok (.getfield 270, 3) := by decide +kernel
theorem dX9_grew_5 : decode cX9_grew 5 = .ok (.iconst 1, 1) := by decide +kernel
theorem dX9_grew_6 : decode cX9_grew 6 = .ok (.iadd, 1) := by decide +kernel
theorem dX9_grew_7 : decode cX9_grew 7 = .ok (.putfield 270, 3) := by decide +kernel
theorem dX9_grew_10 : decode cX9_grew 10 = .ok (.bipush (-3), 2) := by decide +kernel
theorem dX9_grew_12 : decode cX9_grew 12 = .ok (.ireturn, 1) := by decide +kernel
theorem dX10_init_0 : decode cX10_init 0 = .ok (.aload_n 0, 1) := by decide +kernel
theorem dX10_init_1 : decode cX10_init 1 = .ok (.invokespecial 1, 3) := by decide +kernel
theorem dX10_init_4 : decode cX10_init 4 = .ok (.aload_n 0, 1) := by decide +kernel
theorem dX10_init_5 : decode cX10_init 5 = .ok (.sipush 3840, 3) := by decide +kernel
theorem dX10_init_8 : decode cX10_init 8 = .ok (.newarray .int, 2) := by decide +kernel
theorem dX10_init_10 : decode cX10_init 10 = .ok (.putfield 7, 3) := by decide +kernel
theorem dX10_init_13 : decode cX10_init 13 = .ok (.aload_n 0, 1) := by decide +kernel
theorem dX10_init_14 : decode cX10_init 14 = .ok (.bipush 112, 2) := by decide +kernel
theorem dX10_init_16 : decode cX10_init 16 = .ok (.newarray .boolean, 2) := by decide +kernel
theorem dX10_init_18 : decode cX10_init 18 = .ok (.putfield 13, 3) := by decide +kernel
theorem dX10_init_21 : decode cX10_init 21 = .ok (.aload_n 0, 1) := by decide +kernel
theorem dX10_init_22 : decode cX10_init 22 = .ok (.iconst 5, 1) := by decide +kernel
theorem dX10_init_23 : decode cX10_init 23 = .ok (.newarray .int, 2) := by decide +kernel
theorem dX10_init_25 : decode cX10_init 25 = .ok (.putfield 17, 3) := by decide +kernel
theorem dX10_init_28 : decode cX10_init 28 = .ok (.aload_n 0, 1) := by decide +kernel
theorem dX10_init_29 : decode cX10_init 29 = .ok (.iconst 5, 1) := by decide +kernel
theorem dX10_init_30 : decode cX10_init 30 = .ok (.newarray .int, 2) := by decide +kernel
theorem dX10_init_32 : decode cX10_init 32 = .ok (.putfield 20, 3) := by decide +kernel
theorem dX10_init_35 : decode cX10_init 35 = .ok (.aload_n 0, 1) := by decide +kernel
theorem dX10_init_36 : decode cX10_init 36 = .ok (.iconst 5, 1) := by decide +kernel
theorem dX10_init_37 : decode cX10_init 37 = .ok (.newarray .int, 2) := by decide +kernel
theorem dX10_init_39 : decode cX10_init 39 = .ok (.putfield 23, 3) := by decide +kernel
theorem dX10_init_42 : decode cX10_init 42 = .ok (.aload_n 0, 1) := by decide +kernel
theorem dX10_init_43 : decode cX10_init 43 = .ok (.iconst 5, 1) := by decide +kernel
theorem dX10_init_44 : decode cX10_init 44 = .ok (.newarray .int, 2) := by decide +kernel
theorem dX10_init_46 : decode cX10_init 46 = .ok (.putfield 26, 3) := by decide +kernel
theorem dX10_init_49 : decode cX10_init 49 = .ok (.aload_n 0, 1) := by decide +kernel
theorem dX10_init_50 : decode cX10_init 50 = .ok (.iconst 5, 1) := by decide +kernel
theorem dX10_init_51 : decode cX10_init 51 = .ok (.newarray .int, 2) := by decide +kernel
theorem dX10_init_53 : decode cX10_init 53 = .ok (.putfield 29, 3) := by decide +kernel
theorem dX10_init_56 : decode cX10_init 56 = .ok (.aload_n 0, 1) := by decide +kernel
theorem dX10_init_57 : decode cX10_init 57 = .ok (.iconst 5, 1) := by decide +kernel
theorem dX10_init_58 : decode cX10_init 58 = .ok (.newarray .int, 2) := by decide +kernel
theorem dX10_init_60 : decode cX10_init 60 = .ok (.putfield 32, 3) := by decide +kernel
theorem dX10_init_63 : decode cX10_init 63 = .ok (.aload_n 0, 1) := by decide +kernel
theorem dX10_init_64 : decode cX10_init 64 = .ok (.iconst 5, 1) := by decide +kernel
theorem dX10_init_65 : decode cX10_init 65 = .ok (.newarray .int, 2) := by decide +kernel
theorem dX10_init_67 : decode cX10_init 67 = .ok (.putfield 35, 3) := by decide +kernel
theorem dX10_init_70 : decode cX10_init 70 = .ok (.aload_n 0, 1) := by decide +kernel
theorem dX10_init_71 : decode cX10_init 71 = .ok (.bipush 120, 2) := by decide +kernel
theorem dX10_init_73 : decode cX10_init 73 = .ok (.newarray .int, 2) := by decide +kernel
theorem dX10_init_75 : decode cX10_init 75 = .ok (.putfield 38, 3) := by decide +kernel
theorem dX10_init_78 : decode cX10_init 78 = .ok (.aload_n 0, 1) := by decide +kernel
theorem dX10_init_79 : decode cX10_init 79 = .ok (.bipush 120, 2) := by decide +kernel
theorem dX10_init_81 : decode cX10_init 81 = .ok (.newarray .int, 2) := by decide +kernel
theorem dX10_init_83 : decode cX10_init 83 = .ok (.putfield 41, 3) := by decide +kernel
theorem dX10_init_86 : decode cX10_init 86 = .ok (.aload_n 0, 1) := by decide +kernel
theorem dX10_init_87 : decode cX10_init 87 = .ok (.iload_n 1, 1) := by decide +kernel
theorem dX10_init_88 : decode cX10_init 88 = .ok (.iconst 1, 1) := by decide +kernel
theorem dX10_init_89 : decode cX10_init 89 = .ok (.if_icmp .ge 7, 3) := by decide +kernel
theorem dX10_init_92 : decode cX10_init 92 = .ok (.iconst 1, 1) := by decide +kernel
theorem dX10_init_93 : decode cX10_init 93 = .ok (.goto 13, 3) := by decide +kernel
theorem dX10_init_96 : decode cX10_init 96 = .ok (.iload_n 1, 1) := by decide +kernel
theorem dX10_init_97 : decode cX10_init 97 = .ok (.iconst 5, 1) := by decide +kernel
theorem dX10_init_98 : decode cX10_init 98 = .ok (.if_icmp .le 7, 3) := by decide +kernel
theorem dX10_init_101 : decode cX10_init 101 = .ok (.iconst 5, 1) := by decide +kernel
theorem dX10_init_102 : decode cX10_init 102 = .ok (.goto 4, 3) := by decide +kernel
theorem dX10_init_105 : decode cX10_init 105 = .ok (.iload_n 1, 1) := by decide +kernel
theorem dX10_init_106 : decode cX10_init 106 = .ok (.putfield 44, 3) := by decide +kernel
theorem dX10_init_109 : decode cX10_init 109 = .ok (.iconst 0, 1) := by decide +kernel
theorem dX10_init_110 : decode cX10_init 110 = .ok (.istore_n 2, 1) := by decide +kernel
theorem dX10_init_111 : decode cX10_init 111 = .ok (.iload_n 2, 1) := by decide +kernel
theorem dX10_init_112 : decode cX10_init 112 = .ok (.bipush 112, 2) := by decide +kernel
theorem dX10_init_114 : decode cX10_init 114 = .ok (.if_icmp .ge 14, 3) := by decide +kernel
theorem dX10_init_117 : decode cX10_init 117 = .ok (.aload_n 0, 1) := by decide +kernel
theorem dX10_init_118 : decode cX10_init 118 = .ok (.iload_n 2, 1) := by decide +kernel
theorem dX10_init_119 : decode cX10_init 119 = .ok (.invokevirtual 48, 3) := by decide +kernel
theorem dX10_init_122 : decode cX10_init 122 = .ok (.iinc 2 1, 3) := by decide +kernel
theorem dX10_init_125 : decode cX10_init 125 = .ok (.goto (-14), 3) := by decide +kernel
theorem dX10_init_128 : decode cX10_init 128 = .ok (.return_, 1) := by decide +kernel
theorem dX10_thrown_0 : decode cX10_thrown 0 = .ok (.aload_n 0, 1) := by decide +kernel
theorem dX10_thrown_1 : decode cX10_thrown 1 = .ok (.getfield 52, 3) := by decide +kernel
theorem dX10_thrown_4 : decode cX10_thrown 4 = .ok (.ireturn, 1) := by decide +kernel
theorem dX10_topOf_0 : decode cX10_topOf 0 = .ok (.bipush 16, 2) := by decide +kernel
theorem dX10_topOf_2 : decode cX10_topOf 2 = .ok (.istore_n 2, 1) := by decide +kernel
theorem dX10_topOf_3 : decode cX10_topOf 3 = .ok (.iload_n 2, 1) := by decide +kernel
theorem dX10_topOf_4 : decode cX10_topOf 4 = .ok (.ifCond .le 25, 3) := by decide +kernel
theorem dX10_topOf_7 : decode cX10_topOf 7 = .ok (.aload_n 0, 1) := by decide +kernel
theorem dX10_topOf_8 : decode cX10_topOf 8 = .ok (.getfield 7, 3) := by decide +kernel
theorem dX10_topOf_11 : decode cX10_topOf 11 = .ok (.bipush 16, 2) := by decide +kernel
theorem dX10_topOf_13 : decode cX10_topOf 13 = .ok (.iload_n 1, 1) := by decide +kernel
theorem dX10_topOf_14 : decode cX10_topOf 14 = .ok (.imul, 1) := by decide +kernel
theorem dX10_topOf_15 : decode cX10_topOf 15 = .ok (.iload_n 2, 1) := by decide +kernel
theorem dX10_topOf_16 : decode cX10_topOf 16 = .ok (.iadd, 1) := by decide +kernel
theorem dX10_topOf_17 : decode cX10_topOf 17 = .ok (.iconst 1, 1) := by decide +kernel
theorem dX10_topOf_18 : decode cX10_topOf 18 = .ok (.isub, 1) := by decide +kernel
theorem dX10_topOf_19 : decode cX10_topOf 19 = .ok (.iaload, 1) := by decide +kernel
theorem dX10_topOf_20 : decode cX10_topOf 20 = .ok (.ifCond .ne 9, 3) := by decide +kernel
theorem dX10_topOf_23 : decode cX10_topOf 23 = .ok (.iinc 2 (-1), 3) := by decide +kernel
theorem dX10_topOf_26 : decode cX10_topOf 26 = .ok (.goto (-23), 3) := by decide +kernel
theorem dX10_topOf_29 : decode cX10_topOf 29 = .ok (.iload_n 2, 1) := by decide +kernel
theorem dX10_topOf_30 : decode cX10_topOf 30 = .ok (.ireturn, 1) := by decide +kernel
theorem dX10_wipe_0 : decode cX10_wipe 0 = .ok (.iconst 0, 1) := by decide +kernel
theorem dX10_wipe_1 : decode cX10_wipe 1 = .ok (.istore_n 2, 1) := by decide +kernel
theorem dX10_wipe_2 : decode cX10_wipe 2 = .ok (.iload_n 2, 1) := by decide +kernel
theorem dX10_wipe_3 : decode cX10_wipe 3 = .ok (.bipush 16, 2) := by decide +kernel
theorem dX10_wipe_5 : decode cX10_wipe 5 = .ok (.if_icmp .ge 21, 3) := by decide +kernel
theorem dX10_wipe_8 : decode cX10_wipe 8 = .ok (.aload_n 0, 1) := by decide +kernel
theorem dX10_wipe_9 : decode cX10_wipe 9 = .ok (.getfield 7, 3) := by decide +kernel
theorem dX10_wipe_12 : decode cX10_wipe 12 = .ok (.bipush 16, 2) := by decide +kernel
theorem dX10_wipe_14 : decode cX10_wipe 14 = .ok (.iload_n 1, 1) := by decide +kernel
theorem dX10_wipe_15 : decode cX10_wipe 15 = .ok (.imul, 1) := by decide +kernel
theorem dX10_wipe_16 : decode cX10_wipe 16 = .ok (.iload_n 2, 1) := by decide +kernel
theorem dX10_wipe_17 : decode cX10_wipe 17 = .ok (.iadd, 1) := by decide +kernel
theorem dX10_wipe_18 : decode cX10_wipe 18 = .ok (.iconst 0, 1) := by decide +kernel
theorem dX10_wipe_19 : decode cX10_wipe 19 = .ok (.iastore, 1) := by decide +kernel
theorem dX10_wipe_20 : decode cX10_wipe 20 = .ok (.iinc 2 1, 3) := by decide +kernel
theorem dX10_wipe_23 : decode cX10_wipe 23 = .ok (.goto (-21), 3) := by decide +kernel
theorem dX10_wipe_26 : decode cX10_wipe 26 = .ok (.return_, 1) := by decide +kernel
theorem dX10_carryOver_0 : decode cX10_carryOver 0 = .ok (.iconst 0, 1) := by decide +kernel
theorem dX10_carryOver_1 : decode cX10_carryOver 1 = .ok (.istore_n 3, 1) := by decide +kernel
theorem dX10_carryOver_2 : decode cX10_carryOver 2 = .ok (.iload_n 3, 1) := by decide +kernel
theorem dX10_carryOver_3 : decode cX10_carryOver 3 = .ok (.bipush 16, 2) := by decide +kernel
theorem dX10_carryOver_5 : decode cX10_carryOver 5 = .ok (.if_icmp .ge 31, 3) := by decide +kernel
theorem dX10_carryOver_8 : decode cX10_carryOver 8 = .ok (.aload_n 0, 1) := by decide +kernel
theorem dX10_carryOver_9 : decode cX10_carryOver 9 = .ok (.getfield 7, 3) := by decide +kernel
theorem dX10_carryOver_12 : decode cX10_carryOver 12 = .ok (.bipush 16, 2) := by decide +kernel
theorem dX10_carryOver_14 : decode cX10_carryOver 14 = .ok (.iload_n 2, 1) := by decide +kernel
theorem dX10_carryOver_15 : decode cX10_carryOver 15 = .ok (.imul, 1) := by decide +kernel
theorem dX10_carryOver_16 : decode cX10_carryOver 16 = .ok (.iload_n 3, 1) := by decide +kernel
theorem dX10_carryOver_17 : decode cX10_carryOver 17 = .ok (.iadd, 1) := by decide +kernel
theorem dX10_carryOver_18 : decode cX10_carryOver 18 = .ok (.aload_n 0, 1) := by decide +kernel
theorem dX10_carryOver_19 : decode cX10_carryOver 19 = .ok (.getfield 7, 3) := by decide +kernel
theorem dX10_carryOver_22 : decode cX10_carryOver 22 = .ok (.bipush 16, 2) := by decide +kernel
theorem dX10_carryOver_24 : decode cX10_carryOver 24 = .ok (.iload_n 1, 1) := by decide +kernel
theorem dX10_carryOver_25 : decode cX10_carryOver 25 = .ok (.imul, 1) := by decide +kernel
theorem dX10_carryOver_26 : decode cX10_carryOver 26 = .ok (.iload_n 3, 1) := by decide +kernel
theorem dX10_carryOver_27 : decode cX10_carryOver 27 = .ok (.iadd, 1) := by decide +kernel
theorem dX10_carryOver_28 : decode cX10_carryOver 28 = .ok (.iaload, 1) := by decide +kernel
theorem dX10_carryOver_29 : decode cX10_carryOver 29 = .ok (.iastore, 1) := by decide +kernel
theorem dX10_carryOver_30 : decode cX10_carryOver 30 = .ok (.iinc 3 1, 3) := by decide +kernel
theorem dX10_carryOver_33 : decode cX10_carryOver 33 = .ok (.goto (-31), 3) := by decide +kernel
theorem dX10_carryOver_36 : decode cX10_carryOver 36 = .ok (.return_, 1) := by decide +kernel
theorem dX10_setLong_0 : decode cX10_setLong 0 = .ok (.aload_n 0, 1) := by decide +kernel
theorem dX10_setLong_1 : decode cX10_setLong 1 = .ok (.iload_n 1, 1) := by decide +kernel
theorem dX10_setLong_2 : decode cX10_setLong 2 = .ok (.invokevirtual 55, 3) := by decide +kernel
theorem dX10_setLong_5 : decode cX10_setLong 5 = .ok (.lload_n 2, 1) := by decide +kernel
theorem dX10_setLong_6 : decode cX10_setLong 6 = .ok (.lconst 0, 1) := by decide +kernel
theorem dX10_setLong_7 : decode cX10_setLong 7 = .ok (.lcmp, 1) := by decide +kernel
theorem dX10_setLong_8 : decode cX10_setLong 8 = .ok (.ifCond .ge 8, 3) := by decide +kernel
theorem dX10_setLong_11 : decode cX10_setLong 11 = .ok (.lload_n 2, 1) := by decide +kernel
theorem dX10_setLong_12 : decode cX10_setLong 12 = .ok (.lneg, 1) := by decide +kernel
theorem dX10_setLong_13 : decode cX10_setLong 13 = .ok (.goto 4, 3) := by decide +kernel
theorem dX10_setLong_16 : decode cX10_setLong 16 = .ok (.lload_n 2, 1) := by decide +kernel
theorem dX10_setLong_17 : decode cX10_setLong 17 = .ok (.lstore 4, 2) := by decide +kernel
theorem dX10_setLong_19 : decode cX10_setLong 19 = .ok (.aload_n 0, 1) := by decide +kernel
theorem dX10_setLong_20 : decode cX10_setLong 20 = .ok (.getfield 7, 3) := by decide +kernel
theorem dX10_setLong_23 : decode cX10_setLong 23 = .ok (.bipush 16, 2) := by decide +kernel
theorem dX10_setLong_25 : decode cX10_setLong 25 = .ok (.iload_n 1, 1) := by decide +kernel
theorem dX10_setLong_26 : decode cX10_setLong 26 = .ok (.imul, 1) := by decide +kernel
theorem dX10_setLong_27 : decode cX10_setLong 27 = .ok (.lload 4, 2) := by decide +kernel
theorem dX10_setLong_29 : decode cX10_setLong 29 = .ok (.ldc2_w 58, 3) := by decide +kernel
theorem dX10_setLong_32 : decode cX10_setLong 32 = .ok (.land, 1) := by decide +kernel
theorem dX10_setLong_33 : decode cX10_setLong 33 = .ok (.l2i, 1) := by decide +kernel
theorem dX10_setLong_34 : decode cX10_setLong 34 = .ok (.iastore, 1) := by decide +kernel
theorem dX10_setLong_35 : decode cX10_setLong 35 = .ok (.aload_n 0, 1) := by decide +kernel
theorem dX10_setLong_36 : decode cX10_setLong 36 = .ok (.getfield 7, 3) := by decide +kernel
theorem dX10_setLong_39 : decode cX10_setLong 39 = .ok (.bipush 16, 2) := by decide +kernel
theorem dX10_setLong_41 : decode cX10_setLong 41 = .ok (.iload_n 1, 1) := by decide +kernel
theorem dX10_setLong_42 : decode cX10_setLong 42 = .ok (.imul, 1) := by decide +kernel
theorem dX10_setLong_43 : decode cX10_setLong 43 = .ok (.iconst 1, 1) := by decide +kernel
theorem dX10_setLong_44 : decode cX10_setLong 44 = .ok (.iadd, 1) := by decide +kernel
theorem dX10_setLong_45 : decode cX10_setLong 45 = .ok (.lload 4, 2) := by decide +kernel
theorem dX10_setLong_47 : decode cX10_setLong 47 = .ok (.bipush 28, 2) := by decide +kernel
theorem dX10_setLong_49 : decode cX10_setLong 49 = .ok (.lushr, 1) := by decide +kernel
theorem dX10_setLong_50 : decode cX10_setLong 50 = .ok (.ldc2_w 58, 3) := by decide +kernel
theorem dX10_setLong_53 : decode cX10_setLong 53 = .ok (.land, 1) := by decide +kernel
theorem dX10_setLong_54 : decode cX10_setLong 54 = .ok (.l2i, 1) := by decide +kernel
theorem dX10_setLong_55 : decode cX10_setLong 55 = .ok (.iastore, 1) := by decide +kernel
theorem dX10_setLong_56 : decode cX10_setLong 56 = .ok (.aload_n 0, 1) := by decide +kernel
theorem dX10_setLong_57 : decode cX10_setLong 57 = .ok (.getfield 7, 3) := by decide +kernel
theorem dX10_setLong_60 : decode cX10_setLong 60 = .ok (.bipush 16, 2) := by decide +kernel
theorem dX10_setLong_62 : decode cX10_setLong 62 = .ok (.iload_n 1, 1) := by decide +kernel
theorem dX10_setLong_63 : decode cX10_setLong 63 = .ok (.imul, 1) := by decide +kernel
theorem dX10_setLong_64 : decode cX10_setLong 64 = .ok (.iconst 2, 1) := by decide +kernel
theorem dX10_setLong_65 : decode cX10_setLong 65 = .ok (.iadd, 1) := by decide +kernel
theorem dX10_setLong_66 : decode cX10_setLong 66 = .ok (.lload 4, 2) := by decide +kernel
theorem dX10_setLong_68 : decode cX10_setLong 68 = .ok (.bipush 56, 2) := by decide +kernel
theorem dX10_setLong_70 : decode cX10_setLong 70 = .ok (.lushr, 1) := by decide +kernel
theorem dX10_setLong_71 : decode cX10_setLong 71 = .ok (.l2i, 1) := by decide +kernel
theorem dX10_setLong_72 : decode cX10_setLong 72 = .ok (.iastore, 1) := by decide +kernel
theorem dX10_setLong_73 : decode cX10_setLong 73 = .ok (.return_, 1) := by decide +kernel
theorem dX10_isOne_0 : decode cX10_isOne 0 = .ok (.aload_n 0, 1) := by decide +kernel
theorem dX10_isOne_1 : decode cX10_isOne 1 = .ok (.iload_n 1, 1) := by decide +kernel
theorem dX10_isOne_2 : decode cX10_isOne 2 = .ok (.invokevirtual 60, 3) := by decide +kernel
theorem dX10_isOne_5 : decode cX10_isOne 5 = .ok (.iconst 1, 1) := by decide +kernel
theorem dX10_isOne_6 : decode cX10_isOne 6 = .ok (.if_icmp .ne 20, 3) := by decide +kernel
theorem dX10_isOne_9 : decode cX10_isOne 9 = .ok (.aload_n 0, 1) := by decide +kernel
theorem dX10_isOne_10 : decode cX10_isOne 10 = .ok (.getfield 7, 3) := by decide +kernel
theorem dX10_isOne_13 : decode cX10_isOne 13 = .ok (.bipush 16, 2) := by decide +kernel
theorem dX10_isOne_15 : decode cX10_isOne 15 = .ok (.iload_n 1, 1) := by decide +kernel
theorem dX10_isOne_16 : decode cX10_isOne 16 = .ok (.imul, 1) := by decide +kernel
theorem dX10_isOne_17 : decode cX10_isOne 17 = .ok (.iaload, 1) := by decide +kernel
theorem dX10_isOne_18 : decode cX10_isOne 18 = .ok (.iconst 1, 1) := by decide +kernel
theorem dX10_isOne_19 : decode cX10_isOne 19 = .ok (.if_icmp .ne 7, 3) := by decide +kernel
theorem dX10_isOne_22 : decode cX10_isOne 22 = .ok (.iconst 1, 1) := by decide +kernel
theorem dX10_isOne_23 : decode cX10_isOne 23 = .ok (.goto 4, 3) := by decide +kernel
theorem dX10_isOne_26 : decode cX10_isOne 26 = .ok (.iconst 0, 1) := by decide +kernel
theorem dX10_isOne_27 : decode cX10_isOne 27 = .ok (.ireturn, 1) := by decide +kernel
theorem dX10_orderOf_0 : decode cX10_orderOf 0 = .ok (.bipush 15, 2) := by decide +kernel
theorem dX10_orderOf_2 : decode cX10_orderOf 2 = .ok (.istore_n 3, 1) := by decide +kernel
theorem dX10_orderOf_3 : decode cX10_orderOf 3 = .ok (.iload_n 3, 1) := by decide +kernel
theorem dX10_orderOf_4 : decode cX10_orderOf 4 = .ok (.ifCond .le 34, 3) := by decide +kernel
theorem dX10_orderOf_7 : decode cX10_orderOf 7 = .ok (.aload_n 0, 1) := by decide +kernel
theorem dX10_orderOf_8 : decode cX10_orderOf 8 = .ok (.getfield 7, 3) := by decide +kernel
theorem dX10_orderOf_11 : decode cX10_orderOf 11 = .ok (.bipush 16, 2) := by decide +kernel
theorem dX10_orderOf_13 : decode cX10_orderOf 13 = .ok (.iload_n 1, 1) := by decide +kernel
theorem dX10_orderOf_14 : decode cX10_orderOf 14 = .ok (.imul, 1) := by decide +kernel
theorem dX10_orderOf_15 : decode cX10_orderOf 15 = .ok (.iload_n 3, 1) := by decide +kernel
theorem dX10_orderOf_16 : decode cX10_orderOf 16 = .ok (.iadd, 1) := by decide +kernel
theorem dX10_orderOf_17 : decode cX10_orderOf 17 = .ok (.iaload, 1) := by decide +kernel
theorem dX10_orderOf_18 : decode cX10_orderOf 18 = .ok (.aload_n 0, 1) := by decide +kernel
theorem dX10_orderOf_19 : decode cX10_orderOf 19 = .ok (.getfield 7, 3) := by decide +kernel
theorem dX10_orderOf_22 : decode cX10_orderOf 22 = .ok (.bipush 16, 2) := by decide +kernel
theorem dX10_orderOf_24 : decode cX10_orderOf 24 = .ok (.iload_n 2, 1) := by decide +kernel
theorem dX10_orderOf_25 : decode cX10_orderOf 25 = .ok (.imul, 1) := by decide +kernel
theorem dX10_orderOf_26 : decode cX10_orderOf 26 = .ok (.iload_n 3, 1) := by decide +kernel
theorem dX10_orderOf_27 : decode cX10_orderOf 27 = .ok (.iadd, 1) := by decide +kernel
theorem dX10_orderOf_28 : decode cX10_orderOf 28 = .ok (.iaload, 1) := by decide +kernel
theorem dX10_orderOf_29 : decode cX10_orderOf 29 = .ok (.if_icmp .ne 9, 3) := by decide +kernel
theorem dX10_orderOf_32 : decode cX10_orderOf 32 = .ok (.iinc 3 (-1), 3) := by decide +kernel
theorem dX10_orderOf_35 : decode cX10_orderOf 35 = .ok (.goto (-32), 3) := by decide +kernel
theorem dX10_orderOf_38 : decode cX10_orderOf 38 = .ok (.aload_n 0, 1) := by decide +kernel
theorem dX10_orderOf_39 : decode cX10_orderOf 39 = .ok (.getfield 7, 3) := by decide +kernel
theorem dX10_orderOf_42 : decode cX10_orderOf 42 = .ok (.bipush 16, 2) := by decide +kernel
theorem dX10_orderOf_44 : decode cX10_orderOf 44 = .ok (.iload_n 1, 1) := by decide +kernel
theorem dX10_orderOf_45 : decode cX10_orderOf 45 = .ok (.imul, 1) := by decide +kernel
theorem dX10_orderOf_46 : decode cX10_orderOf 46 = .ok (.iload_n 3, 1) := by decide +kernel
theorem dX10_orderOf_47 : decode cX10_orderOf 47 = .ok (.iadd, 1) := by decide +kernel
theorem dX10_orderOf_48 : decode cX10_orderOf 48 = .ok (.iaload, 1) := by decide +kernel
theorem dX10_orderOf_49 : decode cX10_orderOf 49 = .ok (.istore 4, 2) := by decide +kernel
theorem dX10_orderOf_51 : decode cX10_orderOf 51 = .ok (.aload_n 0, 1) := by decide +kernel
theorem dX10_orderOf_52 : decode cX10_orderOf 52 = .ok (.getfield 7, 3) := by decide +kernel
theorem dX10_orderOf_55 : decode cX10_orderOf 55 = .ok (.bipush 16, 2) := by decide +kernel
theorem dX10_orderOf_57 : decode cX10_orderOf 57 = .ok (.iload_n 2, 1) := by decide +kernel
theorem dX10_orderOf_58 : decode cX10_orderOf 58 = .ok (.imul, 1) := by decide +kernel
theorem dX10_orderOf_59 : decode cX10_orderOf 59 = .ok (.iload_n 3, 1) := by decide +kernel
theorem dX10_orderOf_60 : decode cX10_orderOf 60 = .ok (.iadd, 1) := by decide +kernel
theorem dX10_orderOf_61 : decode cX10_orderOf 61 = .ok (.iaload, 1) := by decide +kernel
theorem dX10_orderOf_62 : decode cX10_orderOf 62 = .ok (.istore 5, 2) := by decide +kernel
theorem dX10_orderOf_64 : decode cX10_orderOf 64 = .ok (.iload 4, 2) := by decide +kernel
theorem dX10_orderOf_66 : decode cX10_orderOf 66 = .ok (.iload 5, 2) := by decide +kernel
theorem dX10_orderOf_68 : decode cX10_orderOf 68 = .ok (.if_icmp .ge 7, 3) := by decide +kernel
theorem dX10_orderOf_71 : decode cX10_orderOf 71 = .ok (.iconst (-1), 1) := by decide +kernel
theorem dX10_orderOf_72 : decode cX10_orderOf 72 = .ok (.goto 15, 3) := by decide +kernel
theorem dX10_orderOf_75 : decode cX10_orderOf 75 = .ok (.iload 4, 2) := by decide +kernel
theorem dX10_orderOf_77 : decode cX10_orderOf 77 = .ok (.iload 5, 2) := by decide +kernel
theorem dX10_orderOf_79 : decode cX10_orderOf 79 = .ok (.if_icmp .le 7, 3) := by decide +kernel
theorem dX10_orderOf_82 : decode cX10_orderOf 82 = .ok (.iconst 1, 1) := by decide +kernel
theorem dX10_orderOf_83 : decode cX10_orderOf 83 = .ok (.goto 4, 3) := by decide +kernel
theorem dX10_orderOf_86 : decode cX10_orderOf 86 = .ok (.iconst 0, 1) := by decide +kernel
theorem dX10_orderOf_87 : decode cX10_orderOf 87 = .ok (.ireturn, 1) := by decide +kernel
theorem dX10_plus_0 : decode cX10_plus 0 = .ok (.iconst 0, 1) := by decide +kernel
theorem dX10_plus_1 : decode cX10_plus 1 = .ok (.istore 4, 2) := by decide +kernel
theorem dX10_plus_3 : decode cX10_plus 3 = .ok (.iconst 0, 1) := by decide +kernel
theorem dX10_plus_4 : decode cX10_plus 4 = .ok (.istore 5, 2) := by decide +kernel
theorem dX10_plus_6 : decode cX10_plus 6 = .ok (.iload 5, 2) := by decide +kernel
theorem dX10_plus_8 : decode cX10_plus 8 = .ok (.bipush 16, 2) := by decide +kernel
theorem dX10_plus_10 : decode cX10_plus 10 = .ok (.if_icmp .ge 63, 3) := by decide +kernel
theorem dX10_plus_13 : decode cX10_plus 13 = .ok (.aload_n 0, 1) := by decide +kernel
theorem dX10_plus_14 : decode cX10_plus 14 = .ok (.getfield 7, 3) := by decide +kernel
theorem dX10_plus_17 : decode cX10_plus 17 = .ok (.bipush 16, 2) := by decide +kernel
theorem dX10_plus_19 : decode cX10_plus 19 = .ok (.iload_n 1, 1) := by decide +kernel
theorem dX10_plus_20 : decode cX10_plus 20 = .ok (.imul, 1) := by decide +kernel
theorem dX10_plus_21 : decode cX10_plus 21 = .ok (.iload 5, 2) := by decide +kernel
theorem dX10_plus_23 : decode cX10_plus 23 = .ok (.iadd, 1) := by decide +kernel
theorem dX10_plus_24 : decode cX10_plus 24 = .ok (.iaload, 1) := by decide +kernel
theorem dX10_plus_25 : decode cX10_plus 25 = .ok (.aload_n 0, 1) := by decide +kernel
theorem dX10_plus_26 : decode cX10_plus 26 = .ok (.getfield 7, 3) := by decide +kernel
theorem dX10_plus_29 : decode cX10_plus 29 = .ok (.bipush 16, 2) := by decide +kernel
theorem dX10_plus_31 : decode cX10_plus 31 = .ok (.iload_n 2, 1) := by decide +kernel
theorem dX10_plus_32 : decode cX10_plus 32 = .ok (.imul, 1) := by decide +kernel
theorem dX10_plus_33 : decode cX10_plus 33 = .ok (.iload 5, 2) := by decide +kernel
theorem dX10_plus_35 : decode cX10_plus 35 = .ok (.iadd, 1) := by decide +kernel
theorem dX10_plus_36 : decode cX10_plus 36 = .ok (.iaload, 1) := by decide +kernel
theorem dX10_plus_37 : decode cX10_plus 37 = .ok (.iadd, 1) := by decide +kernel
theorem dX10_plus_38 : decode cX10_plus 38 = .ok (.iload 4, 2) := by decide +kernel
theorem dX10_plus_40 : decode cX10_plus 40 = .ok (.iadd, 1) := by decide +kernel
theorem dX10_plus_41 : decode cX10_plus 41 = .ok (.istore 6, 2) := by decide +kernel
theorem dX10_plus_43 : decode cX10_plus 43 = .ok (.aload_n 0, 1) := by decide +kernel
theorem dX10_plus_44 : decode cX10_plus 44 = .ok (.getfield 7, 3) := by decide +kernel
theorem dX10_plus_47 : decode cX10_plus 47 = .ok (.bipush 16, 2) := by decide +kernel
theorem dX10_plus_49 : decode cX10_plus 49 = .ok (.iload_n 3, 1) := by decide +kernel
theorem dX10_plus_50 : decode cX10_plus 50 = .ok (.imul, 1) := by decide +kernel
theorem dX10_plus_51 : decode cX10_plus 51 = .ok (.iload 5, 2) := by decide +kernel
theorem dX10_plus_53 : decode cX10_plus 53 = .ok (.iadd, 1) := by decide +kernel
theorem dX10_plus_54 : decode cX10_plus 54 = .ok (.iload 6, 2) := by decide +kernel
theorem dX10_plus_56 : decode cX10_plus 56 = .ok (.ldc 64, 2) := by decide +kernel
theorem dX10_plus_58 : decode cX10_plus 58 = .ok (.iand, 1) := by decide +kernel
theorem dX10_plus_59 : decode cX10_plus 59 = .ok (.iastore, 1) := by decide +kernel
theorem dX10_plus_60 : decode cX10_plus 60 = .ok (.iload 6, 2) := by decide +kernel
theorem dX10_plus_62 : decode cX10_plus 62 = .ok (.bipush 28, 2) := by decide +kernel
theorem dX10_plus_64 : decode cX10_plus 64 = .ok (.ishr, 1) := by decide +kernel
theorem dX10_plus_65 : decode cX10_plus 65 = .ok (.istore 4, 2) := by decide +kernel
theorem dX10_plus_67 : decode cX10_plus 67 = .ok (.iinc 5 1, 3) := by decide +kernel
theorem dX10_plus_70 : decode cX10_plus 70 = .ok (.goto (-64), 3) := by decide +kernel
theorem dX10_plus_73 : decode cX10_plus 73 = .ok (.return_, 1) := by decide +kernel
theorem dX10_minus_0 : decode cX10_minus 0 = .ok (.aload_n 0, 1) := by decide +kernel
theorem dX10_minus_1 : decode cX10_minus 1 = .ok (.iload_n 1, 1) := by decide +kernel
theorem dX10_minus_2 : decode cX10_minus 2 = .ok (.invokevirtual 60, 3) := by decide +kernel
theorem dX10_minus_5 : decode cX10_minus 5 = .ok (.istore_n 3, 1) := by decide +kernel
theorem dX10_minus_6 : decode cX10_minus 6 = .ok (.iconst 0, 1) := by decide +kernel
theorem dX10_minus_7 : decode cX10_minus 7 = .ok (.istore 4, 2) := by decide +kernel
theorem dX10_minus_9 : decode cX10_minus 9 = .ok (.iconst 0, 1) := by decide +kernel
theorem dX10_minus_10 : decode cX10_minus 10 = .ok (.istore 5, 2) := by decide +kernel
theorem dX10_minus_12 : decode cX10_minus 12 = .ok (.iload 5, 2) := by decide +kernel
theorem dX10_minus_14 : decode cX10_minus 14 = .ok (.iload_n 3, 1) := by decide +kernel
theorem dX10_minus_15 : decode cX10_minus 15 = .ok (.if_icmp .ge 68, 3) := by decide +kernel
theorem dX10_minus_18 : decode cX10_minus 18 = .ok (.aload_n 0, 1) := by decide +kernel
theorem dX10_minus_19 : decode cX10_minus 19 = .ok (.getfield 7, 3) := by decide +kernel
theorem dX10_minus_22 : decode cX10_minus 22 = .ok (.bipush 16, 2) := by decide +kernel
theorem dX10_minus_24 : decode cX10_minus 24 = .ok (.iload_n 1, 1) := by decide +kernel
theorem dX10_minus_25 : decode cX10_minus 25 = .ok (.imul, 1) := by decide +kernel
theorem dX10_minus_26 : decode cX10_minus 26 = .ok (.iload 5, 2) := by decide +kernel
theorem dX10_minus_28 : decode cX10_minus 28 = .ok (.iadd, 1) := by decide +kernel
theorem dX10_minus_29 : decode cX10_minus 29 = .ok (.iaload, 1) := by decide +kernel
theorem dX10_minus_30 : decode cX10_minus 30 = .ok (.aload_n 0, 1) := by decide +kernel
theorem dX10_minus_31 : decode cX10_minus 31 = .ok (.getfield 7, 3) := by decide +kernel
theorem dX10_minus_34 : decode cX10_minus 34 = .ok (.bipush 16, 2) := by decide +kernel
theorem dX10_minus_36 : decode cX10_minus 36 = .ok (.iload_n 2, 1) := by decide +kernel
theorem dX10_minus_37 : decode cX10_minus 37 = .ok (.imul, 1) := by decide +kernel
theorem dX10_minus_38 : decode cX10_minus 38 = .ok (.iload 5, 2) := by decide +kernel
theorem dX10_minus_40 : decode cX10_minus 40 = .ok (.iadd, 1) := by decide +kernel
theorem dX10_minus_41 : decode cX10_minus 41 = .ok (.iaload, 1) := by decide +kernel
theorem dX10_minus_42 : decode cX10_minus 42 = .ok (.isub, 1) := by decide +kernel
theorem dX10_minus_43 : decode cX10_minus 43 = .ok (.iload 4, 2) := by decide +kernel
theorem dX10_minus_45 : decode cX10_minus 45 = .ok (.isub, 1) := by decide +kernel
theorem dX10_minus_46 : decode cX10_minus 46 = .ok (.istore 6, 2) := by decide +kernel
theorem dX10_minus_48 : decode cX10_minus 48 = .ok (.iload 6, 2) := by decide +kernel
theorem dX10_minus_50 : decode cX10_minus 50 = .ok (.ifCond .ge 7, 3) := by decide +kernel
theorem dX10_minus_53 : decode cX10_minus 53 = .ok (.iconst 1, 1) := by decide +kernel
theorem dX10_minus_54 : decode cX10_minus 54 = .ok (.goto 4, 3) := by decide +kernel
theorem dX10_minus_57 : decode cX10_minus 57 = .ok (.iconst 0, 1) := by decide +kernel
theorem dX10_minus_58 : decode cX10_minus 58 = .ok (.istore 4, 2) := by decide +kernel
theorem dX10_minus_60 : decode cX10_minus 60 = .ok (.aload_n 0, 1) := by decide +kernel
theorem dX10_minus_61 : decode cX10_minus 61 = .ok (.getfield 7, 3) := by decide +kernel
theorem dX10_minus_64 : decode cX10_minus 64 = .ok (.bipush 16, 2) := by decide +kernel
theorem dX10_minus_66 : decode cX10_minus 66 = .ok (.iload_n 1, 1) := by decide +kernel
theorem dX10_minus_67 : decode cX10_minus 67 = .ok (.imul, 1) := by decide +kernel
theorem dX10_minus_68 : decode cX10_minus 68 = .ok (.iload 5, 2) := by decide +kernel
theorem dX10_minus_70 : decode cX10_minus 70 = .ok (.iadd, 1) := by decide +kernel
theorem dX10_minus_71 : decode cX10_minus 71 = .ok (.iload 6, 2) := by decide +kernel
theorem dX10_minus_73 : decode cX10_minus 73 = .ok (.ldc 64, 2) := by decide +kernel
theorem dX10_minus_75 : decode cX10_minus 75 = .ok (.iand, 1) := by decide +kernel
theorem dX10_minus_76 : decode cX10_minus 76 = .ok (.iastore, 1) := by decide +kernel
theorem dX10_minus_77 : decode cX10_minus 77 = .ok (.iinc 5 1, 3) := by decide +kernel
theorem dX10_minus_80 : decode cX10_minus 80 = .ok (.goto (-68), 3) := by decide +kernel
theorem dX10_minus_83 : decode cX10_minus 83 = .ok (.return_, 1) := by decide +kernel
theorem dX10_times_0 : decode cX10_times 0 = .ok (.aload_n 0, 1) := by decide +kernel
theorem dX10_times_1 : decode cX10_times 1 = .ok (.iload_n 3, 1) := by decide +kernel
theorem dX10_times_2 : decode cX10_times 2 = .ok (.invokevirtual 55, 3) := by decide +kernel
theorem dX10_times_5 : decode cX10_times 5 = .ok (.aload_n 0, 1) := by decide +kernel
theorem dX10_times_6 : decode cX10_times 6 = .ok (.iload_n 1, 1) := by decide +kernel
theorem dX10_times_7 : decode cX10_times 7 = .ok (.invokevirtual 60, 3) := by decide +kernel
theorem dX10_times_10 : decode cX10_times 10 = .ok (.istore 4, 2) := by decide +kernel
theorem dX10_times_12 : decode cX10_times 12 = .ok (.aload_n 0, 1) := by decide +kernel
theorem dX10_times_13 : decode cX10_times 13 = .ok (.iload_n 2, 1) := by decide +kernel
theorem dX10_times_14 : decode cX10_times 14 = .ok (.invokevirtual 60, 3) := by decide +kernel
theorem dX10_times_17 : decode cX10_times 17 = .ok (.istore 5, 2) := by decide +kernel
theorem dX10_times_19 : decode cX10_times 19 = .ok (.iconst 0, 1) := by decide +kernel
theorem dX10_times_20 : decode cX10_times 20 = .ok (.istore 6, 2) := by decide +kernel
theorem dX10_times_22 : decode cX10_times 22 = .ok (.iload 6, 2) := by decide +kernel
theorem dX10_times_24 : decode cX10_times 24 = .ok (.iload 4, 2) := by decide +kernel
theorem dX10_times_26 : decode cX10_times 26 = .ok (.if_icmp .ge 138, 3) := by decide +kernel
theorem dX10_times_29 : decode cX10_times 29 = .ok (.aload_n 0, 1) := by decide +kernel
theorem dX10_times_30 : decode cX10_times 30 = .ok (.getfield 7, 3) := by decide +kernel
theorem dX10_times_33 : decode cX10_times 33 = .ok (.bipush 16, 2) := by decide +kernel
theorem dX10_times_35 : decode cX10_times 35 = .ok (.iload_n 1, 1) := by decide +kernel
theorem dX10_times_36 : decode cX10_times 36 = .ok (.imul, 1) := by decide +kernel
theorem dX10_times_37 : decode cX10_times 37 = .ok (.iload 6, 2) := by decide +kernel
theorem dX10_times_39 : decode cX10_times 39 = .ok (.iadd, 1) := by decide +kernel
theorem dX10_times_40 : decode cX10_times 40 = .ok (.iaload, 1) := by decide +kernel
theorem dX10_times_41 : decode cX10_times 41 = .ok (.i2l, 1) := by decide +kernel
theorem dX10_times_42 : decode cX10_times 42 = .ok (.lstore 7, 2) := by decide +kernel
theorem dX10_times_44 : decode cX10_times 44 = .ok (.lconst 0, 1) := by decide +kernel
theorem dX10_times_45 : decode cX10_times 45 = .ok (.lstore 9, 2) := by decide +kernel
theorem dX10_times_47 : decode cX10_times 47 = .ok (.iconst 0, 1) := by decide +kernel
theorem dX10_times_48 : decode cX10_times 48 = .ok (.istore 11, 2) := by decide +kernel
theorem dX10_times_50 : decode cX10_times 50 = .ok (.iload 6, 2) := by decide +kernel
theorem dX10_times_52 : decode cX10_times 52 = .ok (.iload 11, 2) := by decide +kernel
theorem dX10_times_54 : decode cX10_times 54 = .ok (.iadd, 1) := by decide +kernel
theorem dX10_times_55 : decode cX10_times 55 = .ok (.bipush 16, 2) := by decide +kernel
theorem dX10_times_57 : decode cX10_times 57 = .ok (.if_icmp .ge 101, 3) := by decide +kernel
theorem dX10_times_60 : decode cX10_times 60 = .ok (.iload 11, 2) := by decide +kernel
theorem dX10_times_62 : decode cX10_times 62 = .ok (.iload 5, 2) := by decide +kernel
theorem dX10_times_64 : decode cX10_times 64 = .ok (.if_icmp .lt 10, 3) := by decide +kernel
theorem dX10_times_67 : decode cX10_times 67 = .ok (.lload 9, 2) := by decide +kernel
theorem dX10_times_69 : decode cX10_times 69 = .ok (.lconst 0, 1) := by decide +kernel
theorem dX10_times_70 : decode cX10_times 70 = .ok (.lcmp, 1) := by decide +kernel
theorem dX10_times_71 : decode cX10_times 71 = .ok (.ifCond .eq 87, 3) := by decide +kernel
theorem dX10_times_74 : decode cX10_times 74 = .ok (.aload_n 0, 1) := by decide +kernel
theorem dX10_times_75 : decode cX10_times 75 = .ok (.getfield 7, 3) := by decide +kernel
theorem dX10_times_78 : decode cX10_times 78 = .ok (.bipush 16, 2) := by decide +kernel
theorem dX10_times_80 : decode cX10_times 80 = .ok (.iload_n 3, 1) := by decide +kernel
theorem dX10_times_81 : decode cX10_times 81 = .ok (.imul, 1) := by decide +kernel
theorem dX10_times_82 : decode cX10_times 82 = .ok (.iload 6, 2) := by decide +kernel
theorem dX10_times_84 : decode cX10_times 84 = .ok (.iadd, 1) := by decide +kernel
theorem dX10_times_85 : decode cX10_times 85 = .ok (.iload 11, 2) := by decide +kernel
theorem dX10_times_87 : decode cX10_times 87 = .ok (.iadd, 1) := by decide +kernel
theorem dX10_times_88 : decode cX10_times 88 = .ok (.iaload, 1) := by decide +kernel
theorem dX10_times_89 : decode cX10_times 89 = .ok (.i2l, 1) := by decide +kernel
theorem dX10_times_90 : decode cX10_times 90 = .ok (.lload 9, 2) := by decide +kernel
theorem dX10_times_92 : decode cX10_times 92 = .ok (.ladd, 1) := by decide +kernel
theorem dX10_times_93 : decode cX10_times 93 = .ok (.iload 11, 2) := by decide +kernel
theorem dX10_times_95 : decode cX10_times 95 = .ok (.iload 5, 2) := by decide +kernel
theorem dX10_times_97 : decode cX10_times 97 = .ok (.if_icmp .ge 22, 3) := by decide +kernel
theorem dX10_times_100 : decode cX10_times 100 = .ok (.lload 7, 2) := by decide +kernel
theorem dX10_times_102 : decode cX10_times 102 = .ok (.aload_n 0, 1) := by decide +kernel
theorem dX10_times_103 : decode cX10_times 103 = .ok (.getfield 7, 3) := by decide +kernel
theorem dX10_times_106 : decode cX10_times 106 = .ok (.bipush 16, 2) := by decide +kernel
theorem dX10_times_108 : decode cX10_times 108 = .ok (.iload_n 2, 1) := by decide +kernel
theorem dX10_times_109 : decode cX10_times 109 = .ok (.imul, 1) := by decide +kernel
theorem dX10_times_110 : decode cX10_times 110 = .ok (.iload 11, 2) := by decide +kernel
theorem dX10_times_112 : decode cX10_times 112 = .ok (.iadd, 1) := by decide +kernel
theorem dX10_times_113 : decode cX10_times 113 = .ok (.iaload, 1) := by decide +kernel
theorem dX10_times_114 : decode cX10_times 114 = .ok (.i2l, 1) := by decide +kernel
theorem dX10_times_115 : decode cX10_times 115 = .ok (.lmul, 1) := by decide +kernel
theorem dX10_times_116 : decode cX10_times 116 = .ok (.goto 4, 3) := by decide +kernel
theorem dX10_times_119 : decode cX10_times 119 = .ok (.lconst 0, 1) := by decide +kernel
theorem dX10_times_120 : decode cX10_times 120 = .ok (.ladd, 1) := by decide +kernel
theorem dX10_times_121 : decode cX10_times 121 = .ok (.lstore 12, 2) := by decide +kernel
theorem dX10_times_123 : decode cX10_times 123 = .ok (.aload_n 0, 1) := by decide +kernel
theorem dX10_times_124 : decode cX10_times 124 = .ok (.getfield 7, 3) := by decide +kernel
theorem dX10_times_127 : decode cX10_times 127 = .ok (.bipush 16, 2) := by decide +kernel
theorem dX10_times_129 : decode cX10_times 129 = .ok (.iload_n 3, 1) := by decide +kernel
theorem dX10_times_130 : decode cX10_times 130 = .ok (.imul, 1) := by decide +kernel
theorem dX10_times_131 : decode cX10_times 131 = .ok (.iload 6, 2) := by decide +kernel
theorem dX10_times_133 : decode cX10_times 133 = .ok (.iadd, 1) := by decide +kernel
theorem dX10_times_134 : decode cX10_times 134 = .ok (.iload 11, 2) := by decide +kernel
theorem dX10_times_136 : decode cX10_times 136 = .ok (.iadd, 1) := by decide +kernel
theorem dX10_times_137 : decode cX10_times 137 = .ok (.lload 12, 2) := by decide +kernel
theorem dX10_times_139 : decode cX10_times 139 = .ok (.ldc2_w 58, 3) := by decide +kernel
theorem dX10_times_142 : decode cX10_times 142 = .ok (.land, 1) := by decide +kernel
theorem dX10_times_143 : decode cX10_times 143 = .ok (.l2i, 1) := by decide +kernel
theorem dX10_times_144 : decode cX10_times 144 = .ok (.iastore, 1) := by decide +kernel
theorem dX10_times_145 : decode cX10_times 145 = .ok (.lload 12, 2) := by decide +kernel
theorem dX10_times_147 : decode cX10_times 147 = .ok (.bipush 28, 2) := by decide +kernel
theorem dX10_times_149 : decode cX10_times 149 = .ok (.lshr, 1) := by decide +kernel
theorem dX10_times_150 : decode cX10_times 150 = .ok (.lstore 9, 2) := by decide +kernel
theorem dX10_times_152 : decode cX10_times 152 = .ok (.iinc 11 1, 3) := by decide +kernel
theorem dX10_times_155 : decode cX10_times 155 = .ok (.goto (-105), 3) := by decide +kernel
theorem dX10_times_158 : decode cX10_times 158 = .ok (.iinc 6 1, 3) := by decide +kernel
theorem dX10_times_161 : decode cX10_times 161 = .ok (.goto (-139), 3) := by decide +kernel
theorem dX10_times_164 : decode cX10_times 164 = .ok (.return_, 1) := by decide +kernel
theorem dX10_bitsOf_0 : decode cX10_bitsOf 0 = .ok (.aload_n 0, 1) := by decide +kernel
theorem dX10_bitsOf_1 : decode cX10_bitsOf 1 = .ok (.iload_n 1, 1) := by decide +kernel
theorem dX10_bitsOf_2 : decode cX10_bitsOf 2 = .ok (.invokevirtual 60, 3) := by decide +kernel
theorem dX10_bitsOf_5 : decode cX10_bitsOf 5 = .ok (.istore_n 2, 1) := by decide +kernel
theorem dX10_bitsOf_6 : decode cX10_bitsOf 6 = .ok (.iload_n 2, 1) := by decide +kernel
theorem dX10_bitsOf_7 : decode cX10_bitsOf 7 = .ok (.ifCond .ne 7, 3) := by decide +kernel
theorem dX10_bitsOf_10 : decode cX10_bitsOf 10 = .ok (.iconst 0, 1) := by decide +kernel
theorem dX10_bitsOf_11 : decode cX10_bitsOf 11 = .ok (.goto 9, 3) := by decide +kernel
theorem dX10_bitsOf_14 : decode cX10_bitsOf 14 = .ok (.bipush 28, 2) := by decide +kernel
theorem dX10_bitsOf_16 : decode cX10_bitsOf 16 = .ok (.iload_n 2, 1) := by decide +kernel
theorem dX10_bitsOf_17 : decode cX10_bitsOf 17 = .ok (.iconst 1, 1) := by decide +kernel
theorem dX10_bitsOf_18 : decode cX10_bitsOf 18 = .ok (.isub, 1) := by decide +kernel
theorem dX10_bitsOf_19 : decode cX10_bitsOf 19 = .ok (.imul, 1) := by decide +kernel
theorem dX10_bitsOf_20 : decode cX10_bitsOf 20 = .ok (.istore_n 3, 1) := by decide +kernel
theorem dX10_bitsOf_21 : decode cX10_bitsOf 21 = .ok (.iload_n 2, 1) := by decide +kernel
theorem dX10_bitsOf_22 : decode cX10_bitsOf 22 = .ok (.ifCond .ne 7, 3) := by decide +kernel
theorem dX10_bitsOf_25 : decode cX10_bitsOf 25 = .ok (.iconst 0, 1) := by decide +kernel
theorem dX10_bitsOf_26 : decode cX10_bitsOf 26 = .ok (.goto 16, 3) := by decide +kernel
theorem dX10_bitsOf_29 : decode cX10_bitsOf 29 = .ok (.aload_n 0, 1) := by decide +kernel
theorem dX10_bitsOf_30 : decode cX10_bitsOf 30 = .ok (.getfield 7, 3) := by decide +kernel
theorem dX10_bitsOf_33 : decode cX10_bitsOf 33 = .ok (.bipush 16, 2) := by decide +kernel
theorem dX10_bitsOf_35 : decode cX10_bitsOf 35 = .ok (.iload_n 1, 1) := by decide +kernel
theorem dX10_bitsOf_36 : decode cX10_bitsOf 36 = .ok (.imul, 1) := by decide +kernel
theorem dX10_bitsOf_37 : decode cX10_bitsOf 37 = .ok (.iload_n 2, 1) := by decide +kernel
theorem dX10_bitsOf_38 : decode cX10_bitsOf 38 = .ok (.iadd, 1) := by decide +kernel
theorem dX10_bitsOf_39 : decode cX10_bitsOf 39 = .ok (.iconst 1, 1) := by decide +kernel
theorem dX10_bitsOf_40 : decode cX10_bitsOf 40 = .ok (.isub, 1) := by decide +kernel
theorem dX10_bitsOf_41 : decode cX10_bitsOf 41 = .ok (.iaload, 1) := by decide +kernel
theorem dX10_bitsOf_42 : decode cX10_bitsOf 42 = .ok (.istore 4, 2) := by decide +kernel
theorem dX10_bitsOf_44 : decode cX10_bitsOf 44 = .ok (.iload 4, 2) := by decide +kernel
theorem dX10_bitsOf_46 : decode cX10_bitsOf 46 = .ok (.ifCond .le 15, 3) := by decide +kernel
theorem dX10_bitsOf_49 : decode cX10_bitsOf 49 = .ok (.iload 4, 2) := by decide +kernel
theorem dX10_bitsOf_51 : decode cX10_bitsOf 51 = .ok (.iconst 1, 1) := by decide +kernel
theorem dX10_bitsOf_52 : decode cX10_bitsOf 52 = .ok (.ishr, 1) := by decide +kernel
theorem dX10_bitsOf_53 : decode cX10_bitsOf 53 = .ok (.istore 4, 2) := by decide +kernel
theorem dX10_bitsOf_55 : decode cX10_bitsOf 55 = .ok (.iinc 3 1, 3) := by decide +kernel
theorem dX10_bitsOf_58 : decode cX10_bitsOf 58 = .ok (.goto (-14), 3) := by decide +kernel
theorem dX10_bitsOf_61 : decode cX10_bitsOf 61 = .ok (.iload_n 3, 1) := by decide +kernel
theorem dX10_bitsOf_62 : decode cX10_bitsOf 62 = .ok (.ireturn, 1) := by decide +kernel
theorem dX10_bitAt_0 : decode cX10_bitAt 0 = .ok (.aload_n 0, 1) := by decide +kernel
theorem dX10_bitAt_1 : decode cX10_bitAt 1 = .ok (.getfield 7, 3) := by decide +kernel
theorem dX10_bitAt_4 : decode cX10_bitAt 4 = .ok (.bipush 16, 2) := by decide +kernel
theorem dX10_bitAt_6 : decode cX10_bitAt 6 = .ok (.iload_n 1, 1) := by decide +kernel
theorem dX10_bitAt_7 : decode cX10_bitAt 7 = .ok (.imul, 1) := by decide +kernel
theorem dX10_bitAt_8 : decode cX10_bitAt 8 = .ok (.iload_n 2, 1) := by decide +kernel
theorem dX10_bitAt_9 : decode cX10_bitAt 9 = .ok (.bipush 28, 2) := by decide +kernel
theorem dX10_bitAt_11 : decode cX10_bitAt 11 = .ok (.idiv, 1) := by decide +kernel
theorem dX10_bitAt_12 : decode cX10_bitAt 12 = .ok (.iadd, 1) := by decide +kernel
theorem dX10_bitAt_13 : decode cX10_bitAt 13 = .ok (.iaload, 1) := by decide +kernel
theorem dX10_bitAt_14 : decode cX10_bitAt 14 = .ok (.iload_n 2, 1) := by decide +kernel
theorem dX10_bitAt_15 : decode cX10_bitAt 15 = .ok (.bipush 28, 2) := by decide +kernel
theorem dX10_bitAt_17 : decode cX10_bitAt 17 = .ok (.irem, 1) := by decide +kernel
theorem dX10_bitAt_18 : decode cX10_bitAt 18 = .ok (.ishr, 1) := by decide +kernel
theorem dX10_bitAt_19 : decode cX10_bitAt 19 = .ok (.iconst 1, 1) := by decide +kernel
theorem dX10_bitAt_20 : decode cX10_bitAt 20 = .ok (.iand, 1) := by decide +kernel
theorem dX10_bitAt_21 : decode cX10_bitAt 21 = .ok (.ireturn, 1) := by decide +kernel
theorem dX10_halved_0 : decode cX10_halved 0 = .ok (.iconst 0, 1) := by decide +kernel
theorem dX10_halved_1 : decode cX10_halved 1 = .ok (.istore_n 2, 1) := by decide +kernel
theorem dX10_halved_2 : decode cX10_halved 2 = .ok (.aload_n 0, 1) := by decide +kernel
theorem dX10_halved_3 : decode cX10_halved 3 = .ok (.getfield 7, 3) := by decide +kernel
theorem dX10_halved_6 : decode cX10_halved 6 = .ok (.bipush 16, 2) := by decide +kernel
theorem dX10_halved_8 : decode cX10_halved 8 = .ok (.iload_n 1, 1) := by decide +kernel
theorem dX10_halved_9 : decode cX10_halved 9 = .ok (.imul, 1) := by decide +kernel
theorem dX10_halved_10 : decode cX10_halved 10 = .ok (.iload_n 2, 1) := by decide +kernel
theorem dX10_halved_11 : decode cX10_halved 11 = .ok (.iadd, 1) := by decide +kernel
theorem dX10_halved_12 : decode cX10_halved 12 = .ok (.iaload, 1) := by decide +kernel
theorem dX10_halved_13 : decode cX10_halved 13 = .ok (.ifCond .ne 9, 3) := by decide +kernel
theorem dX10_halved_16 : decode cX10_halved 16 = .ok (.iinc 2 1, 3) := by decide +kernel
theorem dX10_halved_19 : decode cX10_halved 19 = .ok (.goto (-17), 3) := by decide +kernel
theorem dX10_halved_22 : decode cX10_halved 22 = .ok (.iconst 0, 1) := by decide +kernel
theorem dX10_halved_23 : decode cX10_halved 23 = .ok (.istore_n 3, 1) := by decide +kernel
theorem dX10_halved_24 : decode cX10_halved 24 = .ok (.aload_n 0, 1) := by decide +kernel
theorem dX10_halved_25 : decode cX10_halved 25 = .ok (.getfield 7, 3) := by decide +kernel
theorem dX10_halved_28 : decode cX10_halved 28 = .ok (.bipush 16, 2) := by decide +kernel
theorem dX10_halved_30 : decode cX10_halved 30 = .ok (.iload_n 1, 1) := by decide +kernel
theorem dX10_halved_31 : decode cX10_halved 31 = .ok (.imul, 1) := by decide +kernel
theorem dX10_halved_32 : decode cX10_halved 32 = .ok (.iload_n 2, 1) := by decide +kernel
theorem dX10_halved_33 : decode cX10_halved 33 = .ok (.iadd, 1) := by decide +kernel
theorem dX10_halved_34 : decode cX10_halved 34 = .ok (.iaload, 1) := by decide +kernel
theorem dX10_halved_35 : decode cX10_halved 35 = .ok (.iload_n 3, 1) := by decide +kernel
theorem dX10_halved_36 : decode cX10_halved 36 = .ok (.ishr, 1) := by decide +kernel
theorem dX10_halved_37 : decode cX10_halved 37 = .ok (.iconst 1, 1) := by decide +kernel
theorem dX10_halved_38 : decode cX10_halved 38 = .ok (.iand, 1) := by decide +kernel
theorem dX10_halved_39 : decode cX10_halved 39 = .ok (.ifCond .ne 9, 3) := by decide +kernel
theorem dX10_halved_42 : decode cX10_halved 42 = .ok (.iinc 3 1, 3) := by decide +kernel
theorem dX10_halved_45 : decode cX10_halved 45 = .ok (.goto (-21), 3) := by decide +kernel
theorem dX10_halved_48 : decode cX10_halved 48 = .ok (.aload_n 0, 1) := by decide +kernel
theorem dX10_halved_49 : decode cX10_halved 49 = .ok (.iload_n 1, 1) := by decide +kernel
theorem dX10_halved_50 : decode cX10_halved 50 = .ok (.invokevirtual 60, 3) := by decide +kernel
theorem dX10_halved_53 : decode cX10_halved 53 = .ok (.istore 4, 2) := by decide +kernel
theorem dX10_halved_55 : decode cX10_halved 55 = .ok (.iconst 0, 1) := by decide +kernel
theorem dX10_halved_56 : decode cX10_halved 56 = .ok (.istore 5, 2) := by decide +kernel
theorem dX10_halved_58 : decode cX10_halved 58 = .ok (.iload 5, 2) := by decide +kernel
theorem dX10_halved_60 : decode cX10_halved 60 = .ok (.iload 4, 2) := by decide +kernel
theorem dX10_halved_62 : decode cX10_halved 62 = .ok (.if_icmp .ge 101, 3) := by decide +kernel
theorem dX10_halved_65 : decode cX10_halved 65 = .ok (.iload 5, 2) := by decide +kernel
theorem dX10_halved_67 : decode cX10_halved 67 = .ok (.iload_n 2, 1) := by decide +kernel
theorem dX10_halved_68 : decode cX10_halved 68 = .ok (.iadd, 1) := by decide +kernel
theorem dX10_halved_69 : decode cX10_halved 69 = .ok (.bipush 16, 2) := by decide +kernel
theorem dX10_halved_71 : decode cX10_halved 71 = .ok (.if_icmp .ge 20, 3) := by decide +kernel
theorem dX10_halved_74 : decode cX10_halved 74 = .ok (.aload_n 0, 1) := by decide +kernel
theorem dX10_halved_75 : decode cX10_halved 75 = .ok (.getfield 7, 3) := by decide +kernel
theorem dX10_halved_78 : decode cX10_halved 78 = .ok (.bipush 16, 2) := by decide +kernel
theorem dX10_halved_80 : decode cX10_halved 80 = .ok (.iload_n 1, 1) := by decide +kernel
theorem dX10_halved_81 : decode cX10_halved 81 = .ok (.imul, 1) := by decide +kernel
theorem dX10_halved_82 : decode cX10_halved 82 = .ok (.iload 5, 2) := by decide +kernel
theorem dX10_halved_84 : decode cX10_halved 84 = .ok (.iadd, 1) := by decide +kernel
theorem dX10_halved_85 : decode cX10_halved 85 = .ok (.iload_n 2, 1) := by decide +kernel
theorem dX10_halved_86 : decode cX10_halved 86 = .ok (.iadd, 1) := by decide +kernel
theorem dX10_halved_87 : decode cX10_halved 87 = .ok (.iaload, 1) := by decide +kernel
theorem dX10_halved_88 : decode cX10_halved 88 = .ok (.goto 4, 3) := by decide +kernel
theorem dX10_halved_91 : decode cX10_halved 91 = .ok (.iconst 0, 1) := by decide +kernel
theorem dX10_halved_92 : decode cX10_halved 92 = .ok (.istore 6, 2) := by decide +kernel
theorem dX10_halved_94 : decode cX10_halved 94 = .ok (.iload 5, 2) := by decide +kernel
theorem dX10_halved_96 : decode cX10_halved 96 = .ok (.iload_n 2, 1) := by decide +kernel
theorem dX10_halved_97 : decode cX10_halved 97 = .ok (.iadd, 1) := by decide +kernel
theorem dX10_halved_98 : decode cX10_halved 98 = .ok (.iconst 1, 1) := by decide +kernel
theorem dX10_halved_99 : decode cX10_halved 99 = .ok (.iadd, 1) := by decide +kernel
theorem dX10_halved_100 : decode cX10_halved 100 = .ok (.bipush 16, 2) := by decide +kernel
theorem dX10_halved_102 : decode cX10_halved 102 = .ok (.if_icmp .ge 22, 3) := by decide +kernel
theorem dX10_halved_105 : decode cX10_halved 105 = .ok (.aload_n 0, 1) := by decide +kernel
theorem dX10_halved_106 : decode cX10_halved 106 = .ok (.getfield 7, 3) := by decide +kernel
theorem dX10_halved_109 : decode cX10_halved 109 = .ok (.bipush 16, 2) := by decide +kernel
theorem dX10_halved_111 : decode cX10_halved 111 = .ok (.iload_n 1, 1) := by decide +kernel
theorem dX10_halved_112 : decode cX10_halved 112 = .ok (.imul, 1) := by decide +kernel
theorem dX10_halved_113 : decode cX10_halved 113 = .ok (.iload 5, 2) := by decide +kernel
theorem dX10_halved_115 : decode cX10_halved 115 = .ok (.iadd, 1) := by decide +kernel
theorem dX10_halved_116 : decode cX10_halved 116 = .ok (.iload_n 2, 1) := by decide +kernel
theorem dX10_halved_117 : decode cX10_halved 117 = .ok (.iadd, 1) := by decide +kernel
theorem dX10_halved_118 : decode cX10_halved 118 = .ok (.iconst 1, 1) := by decide +kernel
theorem dX10_halved_119 : decode cX10_halved 119 = .ok (.iadd, 1) := by decide +kernel
theorem dX10_halved_120 : decode cX10_halved 120 = .ok (.iaload, 1) := by decide +kernel
theorem dX10_halved_121 : decode cX10_halved 121 = .ok (.goto 4, 3) := by decide +kernel
theorem dX10_halved_124 : decode cX10_halved 124 = .ok (.iconst 0, 1) := by decide +kernel
theorem dX10_halved_125 : decode cX10_halved 125 = .ok (.istore 7, 2) := by decide +kernel
theorem dX10_halved_127 : decode cX10_halved 127 = .ok (.aload_n 0, 1) := by decide +kernel
theorem dX10_halved_128 : decode cX10_halved 128 = .ok (.getfield 7, 3) := by decide +kernel
theorem dX10_halved_131 : decode cX10_halved 131 = .ok (.bipush 16, 2) := by decide +kernel
theorem dX10_halved_133 : decode cX10_halved 133 = .ok (.iload_n 1, 1) := by decide +kernel
theorem dX10_halved_134 : decode cX10_halved 134 = .ok (.imul, 1) := by decide +kernel
theorem dX10_halved_135 : decode cX10_halved 135 = .ok (.iload 5, 2) := by decide +kernel
theorem dX10_halved_137 : decode cX10_halved 137 = .ok (.iadd, 1) := by decide +kernel
theorem dX10_halved_138 : decode cX10_halved 138 = .ok (.iload 6, 2) := by decide +kernel
theorem dX10_halved_140 : decode cX10_halved 140 = .ok (.iload_n 3, 1) := by decide +kernel
theorem dX10_halved_141 : decode cX10_halved 141 = .ok (.ishr, 1) := by decide +kernel
theorem dX10_halved_142 : decode cX10_halved 142 = .ok (.iload 7, 2) := by decide +kernel
theorem dX10_halved_144 : decode cX10_halved 144 = .ok (.i2l, 1) := by decide +kernel
theorem dX10_halved_145 : decode cX10_halved 145 = .ok (.bipush 28, 2) := by decide +kernel
theorem dX10_halved_147 : decode cX10_halved 147 = .ok (.iload_n 3, 1) := by decide +kernel
theorem dX10_halved_148 : decode cX10_halved 148 = .ok (.isub, 1) := by decide +kernel
theorem dX10_halved_149 : decode cX10_halved 149 = .ok (.lshl, 1) := by decide +kernel
theorem dX10_halved_150 : decode cX10_halved 150 = .ok (.ldc2_w 58, 3) := by decide +kernel
theorem dX10_halved_153 : decode cX10_halved 153 = .ok (.land, 1) := by decide +kernel
theorem dX10_halved_154 : decode cX10_halved 154 = .ok (.l2i, 1) := by decide +kernel
theorem dX10_halved_155 : decode cX10_halved 155 = .ok (.iadd, 1) := by decide +kernel
theorem dX10_halved_156 : decode cX10_halved 156 = .ok (.iastore, 1) := by decide +kernel
theorem dX10_halved_157 : decode cX10_halved 157 = .ok (.iinc 5 1, 3) := by decide +kernel
theorem dX10_halved_160 : decode cX10_halved 160 = .ok (.goto (-102), 3) := by decide +kernel
theorem dX10_halved_163 : decode cX10_halved 163 = .ok (.bipush 28, 2) := by decide +kernel
theorem dX10_halved_165 : decode cX10_halved 165 = .ok (.iload_n 2, 1) := by decide +kernel
theorem dX10_halved_166 : decode cX10_halved 166 = .ok (.imul, 1) := by decide +kernel
theorem dX10_halved_167 : decode cX10_halved 167 = .ok (.iload_n 3, 1) := by decide +kernel
theorem dX10_halved_168 : decode cX10_halved 168 = .ok (.iadd, 1) := by decide +kernel
theorem dX10_halved_169 : decode cX10_halved 169 = .ok (.ireturn, 1) := by decide +kernel
theorem dX10_twice_0 : decode cX10_twice 0 = .ok (.iload_n 2, 1) := by decide +kernel
theorem dX10_twice_1 : decode cX10_twice 1 = .ok (.istore_n 3, 1) := by decide +kernel
theorem dX10_twice_2 : decode cX10_twice 2 = .ok (.aload_n 0, 1) := by decide +kernel
theorem dX10_twice_3 : decode cX10_twice 3 = .ok (.iload_n 1, 1) := by decide +kernel
theorem dX10_twice_4 : decode cX10_twice 4 = .ok (.invokevirtual 60, 3) := by decide +kernel
theorem dX10_twice_7 : decode cX10_twice 7 = .ok (.istore 4, 2) := by decide +kernel
theorem dX10_twice_9 : decode cX10_twice 9 = .ok (.iconst 0, 1) := by decide +kernel
theorem dX10_twice_10 : decode cX10_twice 10 = .ok (.istore 5, 2) := by decide +kernel
theorem dX10_twice_12 : decode cX10_twice 12 = .ok (.iload 5, 2) := by decide +kernel
theorem dX10_twice_14 : decode cX10_twice 14 = .ok (.iload 4, 2) := by decide +kernel
theorem dX10_twice_16 : decode cX10_twice 16 = .ok (.if_icmp .lt 7, 3) := by decide +kernel
theorem dX10_twice_19 : decode cX10_twice 19 = .ok (.iload_n 3, 1) := by decide +kernel
theorem dX10_twice_20 : decode cX10_twice 20 = .ok (.ifCond .eq 50, 3) := by decide +kernel
theorem dX10_twice_23 : decode cX10_twice 23 = .ok (.iconst 2, 1) := by decide +kernel
theorem dX10_twice_24 : decode cX10_twice 24 = .ok (.aload_n 0, 1) := by decide +kernel
theorem dX10_twice_25 : decode cX10_twice 25 = .ok (.getfield 7, 3) := by decide +kernel
theorem dX10_twice_28 : decode cX10_twice 28 = .ok (.bipush 16, 2) := by decide +kernel
theorem dX10_twice_30 : decode cX10_twice 30 = .ok (.iload_n 1, 1) := by decide +kernel
theorem dX10_twice_31 : decode cX10_twice 31 = .ok (.imul, 1) := by decide +kernel
theorem dX10_twice_32 : decode cX10_twice 32 = .ok (.iload 5, 2) := by decide +kernel
theorem dX10_twice_34 : decode cX10_twice 34 = .ok (.iadd, 1) := by decide +kernel
theorem dX10_twice_35 : decode cX10_twice 35 = .ok (.iaload, 1) := by decide +kernel
theorem dX10_twice_36 : decode cX10_twice 36 = .ok (.imul, 1) := by decide +kernel
theorem dX10_twice_37 : decode cX10_twice 37 = .ok (.iload_n 3, 1) := by decide +kernel
theorem dX10_twice_38 : decode cX10_twice 38 = .ok (.iadd, 1) := by decide +kernel
theorem dX10_twice_39 : decode cX10_twice 39 = .ok (.istore 6, 2) := by decide +kernel
theorem dX10_twice_41 : decode cX10_twice 41 = .ok (.aload_n 0, 1) := by decide +kernel
theorem dX10_twice_42 : decode cX10_twice 42 = .ok (.getfield 7, 3) := by decide +kernel
theorem dX10_twice_45 : decode cX10_twice 45 = .ok (.bipush 16, 2) := by decide +kernel
theorem dX10_twice_47 : decode cX10_twice 47 = .ok (.iload_n 1, 1) := by decide +kernel
theorem dX10_twice_48 : decode cX10_twice 48 = .ok (.imul, 1) := by decide +kernel
theorem dX10_twice_49 : decode cX10_twice 49 = .ok (.iload 5, 2) := by decide +kernel
theorem dX10_twice_51 : decode cX10_twice 51 = .ok (.iadd, 1) := by decide +kernel
theorem dX10_twice_52 : decode cX10_twice 52 = .ok (.iload 6, 2) := by decide +kernel
theorem dX10_twice_54 : decode cX10_twice 54 = .ok (.ldc 64, 2) := by decide +kernel
theorem dX10_twice_56 : decode cX10_twice 56 = .ok (.iand, 1) := by decide +kernel
theorem dX10_twice_57 : decode cX10_twice 57 = .ok (.iastore, 1) := by decide +kernel
theorem dX10_twice_58 : decode cX10_twice 58 = .ok (.iload 6, 2) := by decide +kernel
theorem dX10_twice_60 : decode cX10_twice 60 = .ok (.bipush 28, 2) := by decide +kernel
theorem dX10_twice_62 : decode cX10_twice 62 = .ok (.ishr, 1) := by decide +kernel
theorem dX10_twice_63 : decode cX10_twice 63 = .ok (.istore_n 3, 1) := by decide +kernel
theorem dX10_twice_64 : decode cX10_twice 64 = .ok (.iinc 5 1, 3) := by decide +kernel
theorem dX10_twice_67 : decode cX10_twice 67 = .ok (.goto (-55), 3) := by decide +kernel
theorem dX10_twice_70 : decode cX10_twice 70 = .ok (.return_, 1) := by decide +kernel
theorem dX10_divide_0 : decode cX10_divide 0 = .ok (.aload_n 0, 1) := by decide +kernel
theorem dX10_divide_1 : decode cX10_divide 1 = .ok (.iload_n 3, 1) := by decide +kernel
theorem dX10_divide_2 : decode cX10_divide 2 = .ok (.invokevirtual 55, 3) := by decide +kernel
theorem dX10_divide_5 : decode cX10_divide 5 = .ok (.aload_n 0, 1) := by decide +kernel
theorem dX10_divide_6 : decode cX10_divide 6 = .ok (.iload 4, 2) := by decide +kernel
theorem dX10_divide_8 : decode cX10_divide 8 = .ok (.invokevirtual 55, 3) := by decide +kernel
theorem dX10_divide_11 : decode cX10_divide 11 = .ok (.aload_n 0, 1) := by decide +kernel
theorem dX10_divide_12 : decode cX10_divide 12 = .ok (.iload_n 1, 1) := by decide +kernel
theorem dX10_divide_13 : decode cX10_divide 13 = .ok (.invokevirtual 65, 3) := by decide +kernel
theorem dX10_divide_16 : decode cX10_divide 16 = .ok (.iconst 1, 1) := by decide +kernel
theorem dX10_divide_17 : decode cX10_divide 17 = .ok (.isub, 1) := by decide +kernel
theorem dX10_divide_18 : decode cX10_divide 18 = .ok (.istore 5, 2) := by decide +kernel
theorem dX10_divide_20 : decode cX10_divide 20 = .ok (.iload 5, 2) := by decide +kernel
theorem dX10_divide_22 : decode cX10_divide 22 = .ok (.ifCond .lt 64, 3) := by decide +kernel
theorem dX10_divide_25 : decode cX10_divide 25 = .ok (.aload_n 0, 1) := by decide +kernel
theorem dX10_divide_26 : decode cX10_divide 26 = .ok (.iload 4, 2) := by decide +kernel
theorem dX10_divide_28 : decode cX10_divide 28 = .ok (.aload_n 0, 1) := by decide +kernel
theorem dX10_divide_29 : decode cX10_divide 29 = .ok (.iload_n 1, 1) := by decide +kernel
theorem dX10_divide_30 : decode cX10_divide 30 = .ok (.iload 5, 2) := by decide +kernel
theorem dX10_divide_32 : decode cX10_divide 32 = .ok (.invokevirtual 68, 3) := by decide +kernel
theorem dX10_divide_35 : decode cX10_divide 35 = .ok (.invokevirtual 72, 3) := by decide +kernel
theorem dX10_divide_38 : decode cX10_divide 38 = .ok (.aload_n 0, 1) := by decide +kernel
theorem dX10_divide_39 : decode cX10_divide 39 = .ok (.iload 4, 2) := by decide +kernel
theorem dX10_divide_41 : decode cX10_divide 41 = .ok (.iload_n 2, 1) := by decide +kernel
theorem dX10_divide_42 : decode cX10_divide 42 = .ok (.invokevirtual 76, 3) := by decide +kernel
theorem dX10_divide_45 : decode cX10_divide 45 = .ok (.ifCond .lt 35, 3) := by decide +kernel
theorem dX10_divide_48 : decode cX10_divide 48 = .ok (.aload_n 0, 1) := by decide +kernel
theorem dX10_divide_49 : decode cX10_divide 49 = .ok (.iload 4, 2) := by decide +kernel
theorem dX10_divide_51 : decode cX10_divide 51 = .ok (.iload_n 2, 1) := by decide +kernel
theorem dX10_divide_52 : decode cX10_divide 52 = .ok (.invokevirtual 79, 3) := by decide +kernel
theorem dX10_divide_55 : decode cX10_divide 55 = .ok (.aload_n 0, 1) := by decide +kernel
theorem dX10_divide_56 : decode cX10_divide 56 = .ok (.getfield 7, 3) := by decide +kernel
theorem dX10_divide_59 : decode cX10_divide 59 = .ok (.bipush 16, 2) := by decide +kernel
theorem dX10_divide_61 : decode cX10_divide 61 = .ok (.iload_n 3, 1) := by decide +kernel
theorem dX10_divide_62 : decode cX10_divide 62 = .ok (.imul, 1) := by decide +kernel
theorem dX10_divide_63 : decode cX10_divide 63 = .ok (.iload 5, 2) := by decide +kernel
theorem dX10_divide_65 : decode cX10_divide 65 = .ok (.bipush 28, 2) := by decide +kernel
theorem dX10_divide_67 : decode cX10_divide 67 = .ok (.idiv, 1) := by decide +kernel
theorem dX10_divide_68 : decode cX10_divide 68 = .ok (.iadd, 1) := by decide +kernel
theorem dX10_divide_69 : decode cX10_divide 69 = .ok (.dup2, 1) := by decide +kernel
theorem dX10_divide_70 : decode cX10_divide 70 = .ok (.iaload, 1) := by decide +kernel
theorem dX10_divide_71 : decode cX10_divide 71 = .ok (.iconst 1, 1) := by decide +kernel
theorem dX10_divide_72 : decode cX10_divide 72 = .ok (.iload 5, 2) := by decide +kernel
theorem dX10_divide_74 : decode cX10_divide 74 = .ok (.bipush 28, 2) := by decide +kernel
theorem dX10_divide_76 : decode cX10_divide 76 = .ok (.irem, 1) := by decide +kernel
theorem dX10_divide_77 : decode cX10_divide 77 = .ok (.ishl, 1) := by decide +kernel
theorem dX10_divide_78 : decode cX10_divide 78 = .ok (.ior, 1) := by decide +kernel
theorem dX10_divide_79 : decode cX10_divide 79 = .ok (.iastore, 1) := by decide +kernel
theorem dX10_divide_80 : decode cX10_divide 80 = .ok (.iinc 5 (-1), 3) := by decide +kernel
theorem dX10_divide_83 : decode cX10_divide 83 = .ok (.goto (-63), 3) := by decide +kernel
theorem dX10_divide_86 : decode cX10_divide 86 = .ok (.return_, 1) := by decide +kernel
theorem dX10_divisor_0 : decode cX10_divisor 0 = .ok (.aload_n 0, 1) := by decide +kernel
theorem dX10_divisor_1 : decode cX10_divisor 1 = .ok (.iload_n 1, 1) := by decide +kernel
theorem dX10_divisor_2 : decode cX10_divisor 2 = .ok (.sipush 227, 3) := by decide +kernel
theorem dX10_divisor_5 : decode cX10_divisor 5 = .ok (.invokevirtual 82, 3) := by decide +kernel
theorem dX10_divisor_8 : decode cX10_divisor 8 = .ok (.aload_n 0, 1) := by decide +kernel
theorem dX10_divisor_9 : decode cX10_divisor 9 = .ok (.iload_n 2, 1) := by decide +kernel
theorem dX10_divisor_10 : decode cX10_divisor 10 = .ok (.sipush 228, 3) := by decide +kernel
theorem dX10_divisor_13 : decode cX10_divisor 13 = .ok (.invokevirtual 82, 3) := by decide +kernel
theorem dX10_divisor_16 : decode cX10_divisor 16 = .ok (.aload_n 0, 1) := by decide +kernel
theorem dX10_divisor_17 : decode cX10_divisor 17 = .ok (.sipush 227, 3) := by decide +kernel
theorem dX10_divisor_20 : decode cX10_divisor 20 = .ok (.invokevirtual 85, 3) := by decide +kernel
theorem dX10_divisor_23 : decode cX10_divisor 23 = .ok (.istore_n 3, 1) := by decide +kernel
theorem dX10_divisor_24 : decode cX10_divisor 24 = .ok (.aload_n 0, 1) := by decide +kernel
theorem dX10_divisor_25 : decode cX10_divisor 25 = .ok (.sipush 228, 3) := by decide +kernel
theorem dX10_divisor_28 : decode cX10_divisor 28 = .ok (.invokevirtual 85, 3) := by decide +kernel
theorem dX10_divisor_31 : decode cX10_divisor 31 = .ok (.istore 4, 2) := by decide +kernel
theorem dX10_divisor_33 : decode cX10_divisor 33 = .ok (.iload_n 3, 1) := by decide +kernel
theorem dX10_divisor_34 : decode cX10_divisor 34 = .ok (.iload 4, 2) := by decide +kernel
theorem dX10_divisor_36 : decode cX10_divisor 36 = .ok (.if_icmp .ge 7, 3) := by decide +kernel
theorem dX10_divisor_39 : decode cX10_divisor 39 = .ok (.iload_n 3, 1) := by decide +kernel
theorem dX10_divisor_40 : decode cX10_divisor 40 = .ok (.goto 5, 3) := by decide +kernel
theorem dX10_divisor_43 : decode cX10_divisor 43 = .ok (.iload 4, 2) := by decide +kernel
theorem dX10_divisor_45 : decode cX10_divisor 45 = .ok (.istore 4, 2) := by decide +kernel
theorem dX10_divisor_47 : decode cX10_divisor 47 = .ok (.sipush 227, 3) := by decide +kernel
theorem dX10_divisor_50 : decode cX10_divisor 50 = .ok (.istore 5, 2) := by decide +kernel
theorem dX10_divisor_52 : decode cX10_divisor 52 = .ok (.sipush 228, 3) := by decide +kernel
theorem dX10_divisor_55 : decode cX10_divisor 55 = .ok (.istore 6, 2) := by decide +kernel
theorem dX10_divisor_57 : decode cX10_divisor 57 = .ok (.iconst 1, 1) := by decide +kernel
theorem dX10_divisor_58 : decode cX10_divisor 58 = .ok (.istore 7, 2) := by decide +kernel
theorem dX10_divisor_60 : decode cX10_divisor 60 = .ok (.iload 7, 2) := by decide +kernel
theorem dX10_divisor_62 : decode cX10_divisor 62 = .ok (.ifCond .eq 79, 3) := by decide +kernel
theorem dX10_divisor_65 : decode cX10_divisor 65 = .ok (.aload_n 0, 1) := by decide +kernel
theorem dX10_divisor_66 : decode cX10_divisor 66 = .ok (.iload 5, 2) := by decide +kernel
theorem dX10_divisor_68 : decode cX10_divisor 68 = .ok (.invokevirtual 88, 3) := by decide +kernel
theorem dX10_divisor_71 : decode cX10_divisor 71 = .ok (.ifCond .eq 7, 3) := by decide +kernel
theorem dX10_divisor_74 : decode cX10_divisor 74 = .ok (.iconst 0, 1) := by decide +kernel
theorem dX10_divisor_75 : decode cX10_divisor 75 = .ok (.goto 11, 3) := by decide +kernel
theorem dX10_divisor_78 : decode cX10_divisor 78 = .ok (.aload_n 0, 1) := by decide +kernel
theorem dX10_divisor_79 : decode cX10_divisor 79 = .ok (.iload 5, 2) := by decide +kernel
theorem dX10_divisor_81 : decode cX10_divisor 81 = .ok (.iload 6, 2) := by decide +kernel
theorem dX10_divisor_83 : decode cX10_divisor 83 = .ok (.invokevirtual 76, 3) := by decide +kernel
theorem dX10_divisor_86 : decode cX10_divisor 86 = .ok (.istore 8, 2) := by decide +kernel
theorem dX10_divisor_88 : decode cX10_divisor 88 = .ok (.iload 8, 2) := by decide +kernel
theorem dX10_divisor_90 : decode cX10_divisor 90 = .ok (.ifCond .le 15, 3) := by decide +kernel
theorem dX10_divisor_93 : decode cX10_divisor 93 = .ok (.iload 5, 2) := by decide +kernel
theorem dX10_divisor_95 : decode cX10_divisor 95 = .ok (.istore 9, 2) := by decide +kernel
theorem dX10_divisor_97 : decode cX10_divisor 97 = .ok (.iload 6, 2) := by decide +kernel
theorem dX10_divisor_99 : decode cX10_divisor 99 = .ok (.istore 5, 2) := by decide +kernel
theorem dX10_divisor_101 : decode cX10_divisor 101 = .ok (.iload 9, 2) := by decide +kernel
theorem dX10_divisor_103 : decode cX10_divisor 103 = .ok (.istore 6, 2) := by decide +kernel
theorem dX10_divisor_105 : decode cX10_divisor 105 = .ok (.iload 8, 2) := by decide +kernel
theorem dX10_divisor_107 : decode cX10_divisor 107 = .ok (.ifCond .eq 7, 3) := by decide +kernel
theorem dX10_divisor_110 : decode cX10_divisor 110 = .ok (.iconst 1, 1) := by decide +kernel
theorem dX10_divisor_111 : decode cX10_divisor 111 = .ok (.goto 4, 3) := by decide +kernel
theorem dX10_divisor_114 : decode cX10_divisor 114 = .ok (.iconst 0, 1) := by decide +kernel
theorem dX10_divisor_115 : decode cX10_divisor 115 = .ok (.istore 7, 2) := by decide +kernel
theorem dX10_divisor_117 : decode cX10_divisor 117 = .ok (.iload 7, 2) := by decide +kernel
theorem dX10_divisor_119 : decode cX10_divisor 119 = .ok (.ifCond .eq 19, 3) := by decide +kernel
theorem dX10_divisor_122 : decode cX10_divisor 122 = .ok (.aload_n 0, 1) := by decide +kernel
theorem dX10_divisor_123 : decode cX10_divisor 123 = .ok (.iload 6, 2) := by decide +kernel
theorem dX10_divisor_125 : decode cX10_divisor 125 = .ok (.iload 5, 2) := by decide +kernel
theorem dX10_divisor_127 : decode cX10_divisor 127 = .ok (.invokevirtual 79, 3) := by decide +kernel
theorem dX10_divisor_130 : decode cX10_divisor 130 = .ok (.aload_n 0, 1) := by decide +kernel
theorem dX10_divisor_131 : decode cX10_divisor 131 = .ok (.iload 6, 2) := by decide +kernel
theorem dX10_divisor_133 : decode cX10_divisor 133 = .ok (.invokevirtual 85, 3) := by decide +kernel
theorem dX10_divisor_136 : decode cX10_divisor 136 = .ok (.istore 9, 2) := by decide +kernel
theorem dX10_divisor_138 : decode cX10_divisor 138 = .ok (.goto (-78), 3) := by decide +kernel
theorem dX10_divisor_141 : decode cX10_divisor 141 = .ok (.aload_n 0, 1) := by decide +kernel
theorem dX10_divisor_142 : decode cX10_divisor 142 = .ok (.iload 5, 2) := by decide +kernel
theorem dX10_divisor_144 : decode cX10_divisor 144 = .ok (.sipush 235, 3) := by decide +kernel
theorem dX10_divisor_147 : decode cX10_divisor 147 = .ok (.invokevirtual 82, 3) := by decide +kernel
theorem dX10_divisor_150 : decode cX10_divisor 150 = .ok (.iconst 0, 1) := by decide +kernel
theorem dX10_divisor_151 : decode cX10_divisor 151 = .ok (.istore 8, 2) := by decide +kernel
theorem dX10_divisor_153 : decode cX10_divisor 153 = .ok (.iload 8, 2) := by decide +kernel
theorem dX10_divisor_155 : decode cX10_divisor 155 = .ok (.iload 4, 2) := by decide +kernel
theorem dX10_divisor_157 : decode cX10_divisor 157 = .ok (.if_icmp .ge 17, 3) := by decide +kernel
theorem dX10_divisor_160 : decode cX10_divisor 160 = .ok (.aload_n 0, 1) := by decide +kernel
theorem dX10_divisor_161 : decode cX10_divisor 161 = .ok (.sipush 235, 3) := by decide +kernel
theorem dX10_divisor_164 : decode cX10_divisor 164 = .ok (.iconst 0, 1) := by decide +kernel
theorem dX10_divisor_165 : decode cX10_divisor 165 = .ok (.invokevirtual 72, 3) := by decide +kernel
theorem dX10_divisor_168 : decode cX10_divisor 168 = .ok (.iinc 8 1, 3) := by decide +kernel
theorem dX10_divisor_171 : decode cX10_divisor 171 = .ok (.goto (-18), 3) := by decide +kernel
theorem dX10_divisor_174 : decode cX10_divisor 174 = .ok (.return_, 1) := by decide +kernel
theorem dX10_restBy_0 : decode cX10_restBy 0 = .ok (.lconst 0, 1) := by decide +kernel
theorem dX10_restBy_1 : decode cX10_restBy 1 = .ok (.lstore_n 3, 1) := by decide +kernel
theorem dX10_restBy_2 : decode cX10_restBy 2 = .ok (.bipush 15, 2) := by decide +kernel
theorem dX10_restBy_4 : decode cX10_restBy 4 = .ok (.istore 5, 2) := by decide +kernel
theorem dX10_restBy_6 : decode cX10_restBy 6 = .ok (.iload 5, 2) := by decide +kernel
theorem dX10_restBy_8 : decode cX10_restBy 8 = .ok (.ifCond .lt 31, 3) := by decide +kernel
theorem dX10_restBy_11 : decode cX10_restBy 11 = .ok (.lload_n 3, 1) := by decide +kernel
theorem dX10_restBy_12 : decode cX10_restBy 12 = .ok (.bipush 28, 2) := by decide +kernel
theorem dX10_restBy_14 : decode cX10_restBy 14 = .ok (.lshl, 1) := by decide +kernel
theorem dX10_restBy_15 : decode cX10_restBy 15 = .ok (.aload_n 0, 1) := by decide +kernel
theorem dX10_restBy_16 : decode cX10_restBy 16 = .ok (.getfield 7, 3) := by decide +kernel
theorem dX10_restBy_19 : decode cX10_restBy 19 = .ok (.bipush 16, 2) := by decide +kernel
theorem dX10_restBy_21 : decode cX10_restBy 21 = .ok (.iload_n 1, 1) := by decide +kernel
theorem dX10_restBy_22 : decode cX10_restBy 22 = .ok (.imul, 1) := by decide +kernel
theorem dX10_restBy_23 : decode cX10_restBy 23 = .ok (.iload 5, 2) := by decide +kernel
theorem dX10_restBy_25 : decode cX10_restBy 25 = .ok (.iadd, 1) := by decide +kernel
theorem dX10_restBy_26 : decode cX10_restBy 26 = .ok (.iaload, 1) := by decide +kernel
theorem dX10_restBy_27 : decode cX10_restBy 27 = .ok (.i2l, 1) := by decide +kernel
theorem dX10_restBy_28 : decode cX10_restBy 28 = .ok (.ladd, 1) := by decide +kernel
theorem dX10_restBy_29 : decode cX10_restBy 29 = .ok (.iload_n 2, 1) := by decide +kernel
theorem dX10_restBy_30 : decode cX10_restBy 30 = .ok (.i2l, 1) := by decide +kernel
theorem dX10_restBy_31 : decode cX10_restBy 31 = .ok (.lrem, 1) := by decide +kernel
theorem dX10_restBy_32 : decode cX10_restBy 32 = .ok (.lstore_n 3, 1) := by decide +kernel
theorem dX10_restBy_33 : decode cX10_restBy 33 = .ok (.iinc 5 (-1), 3) := by decide +kernel
theorem dX10_restBy_36 : decode cX10_restBy 36 = .ok (.goto (-30), 3) := by decide +kernel
theorem dX10_restBy_39 : decode cX10_restBy 39 = .ok (.lload_n 3, 1) := by decide +kernel
theorem dX10_restBy_40 : decode cX10_restBy 40 = .ok (.l2i, 1) := by decide +kernel
theorem dX10_restBy_41 : decode cX10_restBy 41 = .ok (.ireturn, 1) := by decide +kernel
theorem dX10_nothing_0 : decode cX10_nothing 0 = .ok (.aload_n 0, 1) := by decide +kernel
theorem dX10_nothing_1 : decode cX10_nothing 1 = .ok (.iconst 2, 1) := by decide +kernel
theorem dX10_nothing_2 : decode cX10_nothing 2 = .ok (.iload_n 1, 1) := by decide +kernel
theorem dX10_nothing_3 : decode cX10_nothing 3 = .ok (.imul, 1) := by decide +kernel
theorem dX10_nothing_4 : decode cX10_nothing 4 = .ok (.invokevirtual 55, 3) := by decide +kernel
theorem dX10_nothing_7 : decode cX10_nothing 7 = .ok (.aload_n 0, 1) := by decide +kernel
theorem dX10_nothing_8 : decode cX10_nothing 8 = .ok (.iconst 2, 1) := by decide +kernel
theorem dX10_nothing_9 : decode cX10_nothing 9 = .ok (.iload_n 1, 1) := by decide +kernel
theorem dX10_nothing_10 : decode cX10_nothing 10 = .ok (.imul, 1) := by decide +kernel
theorem dX10_nothing_11 : decode cX10_nothing 11 = .ok (.iconst 1, 1) := by decide +kernel
theorem dX10_nothing_12 : decode cX10_nothing 12 = .ok (.iadd, 1) := by decide +kernel
theorem dX10_nothing_13 : decode cX10_nothing 13 = .ok (.invokevirtual 55, 3) := by decide +kernel
theorem dX10_nothing_16 : decode cX10_nothing 16 = .ok (.aload_n 0, 1) := by decide +kernel
theorem dX10_nothing_17 : decode cX10_nothing 17 = .ok (.getfield 7, 3) := by decide +kernel
theorem dX10_nothing_20 : decode cX10_nothing 20 = .ok (.bipush 16, 2) := by decide +kernel
theorem dX10_nothing_22 : decode cX10_nothing 22 = .ok (.iconst 2, 1) := by decide +kernel
theorem dX10_nothing_23 : decode cX10_nothing 23 = .ok (.iload_n 1, 1) := by decide +kernel
theorem dX10_nothing_24 : decode cX10_nothing 24 = .ok (.imul, 1) := by decide +kernel
theorem dX10_nothing_25 : decode cX10_nothing 25 = .ok (.iconst 1, 1) := by decide +kernel
theorem dX10_nothing_26 : decode cX10_nothing 26 = .ok (.iadd, 1) := by decide +kernel
theorem dX10_nothing_27 : decode cX10_nothing 27 = .ok (.imul, 1) := by decide +kernel
theorem dX10_nothing_28 : decode cX10_nothing 28 = .ok (.iconst 1, 1) := by decide +kernel
theorem dX10_nothing_29 : decode cX10_nothing 29 = .ok (.iastore, 1) := by decide +kernel
theorem dX10_nothing_30 : decode cX10_nothing 30 = .ok (.aload_n 0, 1) := by decide +kernel
theorem dX10_nothing_31 : decode cX10_nothing 31 = .ok (.getfield 13, 3) := by decide +kernel
theorem dX10_nothing_34 : decode cX10_nothing 34 = .ok (.iload_n 1, 1) := by decide +kernel
theorem dX10_nothing_35 : decode cX10_nothing 35 = .ok (.iconst 0, 1) := by decide +kernel
theorem dX10_nothing_36 : decode cX10_nothing 36 = .ok (.bastore, 1) := by decide +kernel
theorem dX10_nothing_37 : decode cX10_nothing 37 = .ok (.return_, 1) := by decide +kernel
theorem dX10_isZero_0 : decode cX10_isZero 0 = .ok (.aload_n 0, 1) := by decide +kernel
theorem dX10_isZero_1 : decode cX10_isZero 1 = .ok (.iconst 2, 1) := by decide +kernel
theorem dX10_isZero_2 : decode cX10_isZero 2 = .ok (.iload_n 1, 1) := by decide +kernel
theorem dX10_isZero_3 : decode cX10_isZero 3 = .ok (.imul, 1) := by decide +kernel
theorem dX10_isZero_4 : decode cX10_isZero 4 = .ok (.invokevirtual 60, 3) := by decide +kernel
theorem dX10_isZero_7 : decode cX10_isZero 7 = .ok (.ifCond .ne 7, 3) := by decide +kernel
theorem dX10_isZero_10 : decode cX10_isZero 10 = .ok (.iconst 1, 1) := by decide +kernel
theorem dX10_isZero_11 : decode cX10_isZero 11 = .ok (.goto 4, 3) := by decide +kernel
theorem dX10_isZero_14 : decode cX10_isZero 14 = .ok (.iconst 0, 1) := by decide +kernel
theorem dX10_isZero_15 : decode cX10_isZero 15 = .ok (.ireturn, 1) := by decide +kernel
theorem dX10_same_0 : decode cX10_same 0 = .ok (.aload_n 0, 1) := by decide +kernel
theorem dX10_same_1 : decode cX10_same 1 = .ok (.iconst 2, 1) := by decide +kernel
theorem dX10_same_2 : decode cX10_same 2 = .ok (.iload_n 1, 1) := by decide +kernel
theorem dX10_same_3 : decode cX10_same 3 = .ok (.imul, 1) := by decide +kernel
theorem dX10_same_4 : decode cX10_same 4 = .ok (.iconst 2, 1) := by decide +kernel
theorem dX10_same_5 : decode cX10_same 5 = .ok (.iload_n 2, 1) := by decide +kernel
theorem dX10_same_6 : decode cX10_same 6 = .ok (.imul, 1) := by decide +kernel
theorem dX10_same_7 : decode cX10_same 7 = .ok (.invokevirtual 82, 3) := by decide +kernel
theorem dX10_same_10 : decode cX10_same 10 = .ok (.aload_n 0, 1) := by decide +kernel
theorem dX10_same_11 : decode cX10_same 11 = .ok (.iconst 2, 1) := by decide +kernel
theorem dX10_same_12 : decode cX10_same 12 = .ok (.iload_n 1, 1) := by decide +kernel
theorem dX10_same_13 : decode cX10_same 13 = .ok (.imul, 1) := by decide +kernel
theorem dX10_same_14 : decode cX10_same 14 = .ok (.iconst 1, 1) := by decide +kernel
theorem dX10_same_15 : decode cX10_same 15 = .ok (.iadd, 1) := by decide +kernel
theorem dX10_same_16 : decode cX10_same 16 = .ok (.iconst 2, 1) := by decide +kernel
theorem dX10_same_17 : decode cX10_same 17 = .ok (.iload_n 2, 1) := by decide +kernel
theorem dX10_same_18 : decode cX10_same 18 = .ok (.imul, 1) := by decide +kernel
theorem dX10_same_19 : decode cX10_same 19 = .ok (.iconst 1, 1) := by decide +kernel
theorem dX10_same_20 : decode cX10_same 20 = .ok (.iadd, 1) := by decide +kernel
theorem dX10_same_21 : decode cX10_same 21 = .ok (.invokevirtual 82, 3) := by decide +kernel
theorem dX10_same_24 : decode cX10_same 24 = .ok (.aload_n 0, 1) := by decide +kernel
theorem dX10_same_25 : decode cX10_same 25 = .ok (.getfield 13, 3) := by decide +kernel
theorem dX10_same_28 : decode cX10_same 28 = .ok (.iload_n 2, 1) := by decide +kernel
theorem dX10_same_29 : decode cX10_same 29 = .ok (.aload_n 0, 1) := by decide +kernel
theorem dX10_same_30 : decode cX10_same 30 = .ok (.getfield 13, 3) := by decide +kernel
theorem dX10_same_33 : decode cX10_same 33 = .ok (.iload_n 1, 1) := by decide +kernel
theorem dX10_same_34 : decode cX10_same 34 = .ok (.baload, 1) := by decide +kernel
theorem dX10_same_35 : decode cX10_same 35 = .ok (.bastore, 1) := by decide +kernel
theorem dX10_same_36 : decode cX10_same 36 = .ok (.return_, 1) := by decide +kernel
theorem dX10_sizeOf_0 : decode cX10_sizeOf 0 = .ok (.aload_n 0, 1) := by decide +kernel
theorem dX10_sizeOf_1 : decode cX10_sizeOf 1 = .ok (.iconst 2, 1) := by decide +kernel
theorem dX10_sizeOf_2 : decode cX10_sizeOf 2 = .ok (.iload_n 1, 1) := by decide +kernel
theorem dX10_sizeOf_3 : decode cX10_sizeOf 3 = .ok (.imul, 1) := by decide +kernel
theorem dX10_sizeOf_4 : decode cX10_sizeOf 4 = .ok (.invokevirtual 65, 3) := by decide +kernel
theorem dX10_sizeOf_7 : decode cX10_sizeOf 7 = .ok (.aload_n 0, 1) := by decide +kernel
theorem dX10_sizeOf_8 : decode cX10_sizeOf 8 = .ok (.iconst 2, 1) := by decide +kernel
theorem dX10_sizeOf_9 : decode cX10_sizeOf 9 = .ok (.iload_n 1, 1) := by decide +kernel
theorem dX10_sizeOf_10 : decode cX10_sizeOf 10 = .ok (.imul, 1) := by decide +kernel
theorem dX10_sizeOf_11 : decode cX10_sizeOf 11 = .ok (.iconst 1, 1) := by decide +kernel
theorem dX10_sizeOf_12 : decode cX10_sizeOf 12 = .ok (.iadd, 1) := by decide +kernel
theorem dX10_sizeOf_13 : decode cX10_sizeOf 13 = .ok (.invokevirtual 65, 3) := by decide +kernel
theorem dX10_sizeOf_16 : decode cX10_sizeOf 16 = .ok (.iadd, 1) := by decide +kernel
theorem dX10_sizeOf_17 : decode cX10_sizeOf 17 = .ok (.ireturn, 1) := by decide +kernel
theorem dX10_lowest_0 : decode cX10_lowest 0 = .ok (.aload_n 0, 1) := by decide +kernel
theorem dX10_lowest_1 : decode cX10_lowest 1 = .ok (.iload_n 1, 1) := by decide +kernel
theorem dX10_lowest_2 : decode cX10_lowest 2 = .ok (.invokevirtual 92, 3) := by decide +kernel
theorem dX10_lowest_5 : decode cX10_lowest 5 = .ok (.ifCond .eq 10, 3) := by decide +kernel
theorem dX10_lowest_8 : decode cX10_lowest 8 = .ok (.aload_n 0, 1) := by decide +kernel
theorem dX10_lowest_9 : decode cX10_lowest 9 = .ok (.iload_n 1, 1) := by decide +kernel
theorem dX10_lowest_10 : decode cX10_lowest 10 = .ok (.invokevirtual 48, 3) := by decide +kernel
theorem dX10_lowest_13 : decode cX10_lowest 13 = .ok (.iconst 1, 1) := by decide +kernel
theorem dX10_lowest_14 : decode cX10_lowest 14 = .ok (.ireturn, 1) := by decide +kernel
theorem dX10_lowest_15 : decode cX10_lowest 15 = .ok (.aload_n 0, 1) := by decide +kernel
theorem dX10_lowest_16 : decode cX10_lowest 16 = .ok (.iconst 2, 1) := by decide +kernel
theorem dX10_lowest_17 : decode cX10_lowest 17 = .ok (.iload_n 1, 1) := by decide +kernel
theorem dX10_lowest_18 : decode cX10_lowest 18 = .ok (.imul, 1) := by decide +kernel
theorem dX10_lowest_19 : decode cX10_lowest 19 = .ok (.iconst 1, 1) := by decide +kernel
theorem dX10_lowest_20 : decode cX10_lowest 20 = .ok (.iadd, 1) := by decide +kernel
theorem dX10_lowest_21 : decode cX10_lowest 21 = .ok (.invokevirtual 88, 3) := by decide +kernel
theorem dX10_lowest_24 : decode cX10_lowest 24 = .ok (.ifCond .ne 15, 3) := by decide +kernel
theorem dX10_lowest_27 : decode cX10_lowest 27 = .ok (.aload_n 0, 1) := by decide +kernel
theorem dX10_lowest_28 : decode cX10_lowest 28 = .ok (.iconst 2, 1) := by decide +kernel
theorem dX10_lowest_29 : decode cX10_lowest 29 = .ok (.iload_n 1, 1) := by decide +kernel
theorem dX10_lowest_30 : decode cX10_lowest 30 = .ok (.imul, 1) := by decide +kernel
theorem dX10_lowest_31 : decode cX10_lowest 31 = .ok (.iconst 2, 1) := by decide +kernel
theorem dX10_lowest_32 : decode cX10_lowest 32 = .ok (.iload_n 1, 1) := by decide +kernel
theorem dX10_lowest_33 : decode cX10_lowest 33 = .ok (.imul, 1) := by decide +kernel
theorem dX10_lowest_34 : decode cX10_lowest 34 = .ok (.iconst 1, 1) := by decide +kernel
theorem dX10_lowest_35 : decode cX10_lowest 35 = .ok (.iadd, 1) := by decide +kernel
theorem dX10_lowest_36 : decode cX10_lowest 36 = .ok (.invokevirtual 95, 3) := by decide +kernel
theorem dX10_lowest_39 : decode cX10_lowest 39 = .ok (.aload_n 0, 1) := by decide +kernel
theorem dX10_lowest_40 : decode cX10_lowest 40 = .ok (.iconst 2, 1) := by decide +kernel
theorem dX10_lowest_41 : decode cX10_lowest 41 = .ok (.iload_n 1, 1) := by decide +kernel
theorem dX10_lowest_42 : decode cX10_lowest 42 = .ok (.imul, 1) := by decide +kernel
theorem dX10_lowest_43 : decode cX10_lowest 43 = .ok (.iconst 1, 1) := by decide +kernel
theorem dX10_lowest_44 : decode cX10_lowest 44 = .ok (.iadd, 1) := by decide +kernel
theorem dX10_lowest_45 : decode cX10_lowest 45 = .ok (.invokevirtual 88, 3) := by decide +kernel
theorem dX10_lowest_48 : decode cX10_lowest 48 = .ok (.ifCond .ne 69, 3) := by decide +kernel
theorem dX10_lowest_51 : decode cX10_lowest 51 = .ok (.aload_n 0, 1) := by decide +kernel
theorem dX10_lowest_52 : decode cX10_lowest 52 = .ok (.sipush 235, 3) := by decide +kernel
theorem dX10_lowest_55 : decode cX10_lowest 55 = .ok (.invokevirtual 88, 3) := by decide +kernel
theorem dX10_lowest_58 : decode cX10_lowest 58 = .ok (.ifCond .ne 59, 3) := by decide +kernel
theorem dX10_lowest_61 : decode cX10_lowest 61 = .ok (.aload_n 0, 1) := by decide +kernel
theorem dX10_lowest_62 : decode cX10_lowest 62 = .ok (.iconst 2, 1) := by decide +kernel
theorem dX10_lowest_63 : decode cX10_lowest 63 = .ok (.iload_n 1, 1) := by decide +kernel
theorem dX10_lowest_64 : decode cX10_lowest 64 = .ok (.imul, 1) := by decide +kernel
theorem dX10_lowest_65 : decode cX10_lowest 65 = .ok (.sipush 235, 3) := by decide +kernel
theorem dX10_lowest_68 : decode cX10_lowest 68 = .ok (.sipush 229, 3) := by decide +kernel
theorem dX10_lowest_71 : decode cX10_lowest 71 = .ok (.sipush 230, 3) := by decide +kernel
theorem dX10_lowest_74 : decode cX10_lowest 74 = .ok (.invokevirtual 98, 3) := by decide +kernel
theorem dX10_lowest_77 : decode cX10_lowest 77 = .ok (.aload_n 0, 1) := by decide +kernel
theorem dX10_lowest_78 : decode cX10_lowest 78 = .ok (.sipush 229, 3) := by decide +kernel
theorem dX10_lowest_81 : decode cX10_lowest 81 = .ok (.iconst 2, 1) := by decide +kernel
theorem dX10_lowest_82 : decode cX10_lowest 82 = .ok (.iload_n 1, 1) := by decide +kernel
theorem dX10_lowest_83 : decode cX10_lowest 83 = .ok (.imul, 1) := by decide +kernel
theorem dX10_lowest_84 : decode cX10_lowest 84 = .ok (.invokevirtual 82, 3) := by decide +kernel
theorem dX10_lowest_87 : decode cX10_lowest 87 = .ok (.aload_n 0, 1) := by decide +kernel
theorem dX10_lowest_88 : decode cX10_lowest 88 = .ok (.iconst 2, 1) := by decide +kernel
theorem dX10_lowest_89 : decode cX10_lowest 89 = .ok (.iload_n 1, 1) := by decide +kernel
theorem dX10_lowest_90 : decode cX10_lowest 90 = .ok (.imul, 1) := by decide +kernel
theorem dX10_lowest_91 : decode cX10_lowest 91 = .ok (.iconst 1, 1) := by decide +kernel
theorem dX10_lowest_92 : decode cX10_lowest 92 = .ok (.iadd, 1) := by decide +kernel
theorem dX10_lowest_93 : decode cX10_lowest 93 = .ok (.sipush 235, 3) := by decide +kernel
theorem dX10_lowest_96 : decode cX10_lowest 96 = .ok (.sipush 229, 3) := by decide +kernel
theorem dX10_lowest_99 : decode cX10_lowest 99 = .ok (.sipush 230, 3) := by decide +kernel
theorem dX10_lowest_102 : decode cX10_lowest 102 = .ok (.invokevirtual 98, 3) := by decide +kernel
theorem dX10_lowest_105 : decode cX10_lowest 105 = .ok (.aload_n 0, 1) := by decide +kernel
theorem dX10_lowest_106 : decode cX10_lowest 106 = .ok (.sipush 229, 3) := by decide +kernel
theorem dX10_lowest_109 : decode cX10_lowest 109 = .ok (.iconst 2, 1) := by decide +kernel
theorem dX10_lowest_110 : decode cX10_lowest 110 = .ok (.iload_n 1, 1) := by decide +kernel
theorem dX10_lowest_111 : decode cX10_lowest 111 = .ok (.imul, 1) := by decide +kernel
theorem dX10_lowest_112 : decode cX10_lowest 112 = .ok (.iconst 1, 1) := by decide +kernel
theorem dX10_lowest_113 : decode cX10_lowest 113 = .ok (.iadd, 1) := by decide +kernel
theorem dX10_lowest_114 : decode cX10_lowest 114 = .ok (.invokevirtual 82, 3) := by decide +kernel
theorem dX10_lowest_117 : decode cX10_lowest 117 = .ok (.aload_n 0, 1) := by decide +kernel
theorem dX10_lowest_118 : decode cX10_lowest 118 = .ok (.iconst 2, 1) := by decide +kernel
theorem dX10_lowest_119 : decode cX10_lowest 119 = .ok (.iload_n 1, 1) := by decide +kernel
theorem dX10_lowest_120 : decode cX10_lowest 120 = .ok (.imul, 1) := by decide +kernel
theorem dX10_lowest_121 : decode cX10_lowest 121 = .ok (.invokevirtual 65, 3) := by decide +kernel
theorem dX10_lowest_124 : decode cX10_lowest 124 = .ok (.sipush 192, 3) := by decide +kernel
theorem dX10_lowest_127 : decode cX10_lowest 127 = .ok (.if_icmp .gt 22, 3) := by decide +kernel
theorem dX10_lowest_130 : decode cX10_lowest 130 = .ok (.aload_n 0, 1) := by decide +kernel
theorem dX10_lowest_131 : decode cX10_lowest 131 = .ok (.iconst 2, 1) := by decide +kernel
theorem dX10_lowest_132 : decode cX10_lowest 132 = .ok (.iload_n 1, 1) := by decide +kernel
theorem dX10_lowest_133 : decode cX10_lowest 133 = .ok (.imul, 1) := by decide +kernel
theorem dX10_lowest_134 : decode cX10_lowest 134 = .ok (.iconst 1, 1) := by decide +kernel
theorem dX10_lowest_135 : decode cX10_lowest 135 = .ok (.iadd, 1) := by decide +kernel
theorem dX10_lowest_136 : decode cX10_lowest 136 = .ok (.invokevirtual 65, 3) := by decide +kernel
theorem dX10_lowest_139 : decode cX10_lowest 139 = .ok (.sipush 192, 3) := by decide +kernel
theorem dX10_lowest_142 : decode cX10_lowest 142 = .ok (.if_icmp .gt 7, 3) := by decide +kernel
theorem dX10_lowest_145 : decode cX10_lowest 145 = .ok (.iconst 1, 1) := by decide +kernel
theorem dX10_lowest_146 : decode cX10_lowest 146 = .ok (.goto 4, 3) := by decide +kernel
theorem dX10_lowest_149 : decode cX10_lowest 149 = .ok (.iconst 0, 1) := by decide +kernel
theorem dX10_lowest_150 : decode cX10_lowest 150 = .ok (.ireturn, 1) := by decide +kernel
theorem dX10_total_0 : decode cX10_total 0 = .ok (.aload_n 0, 1) := by decide +kernel
theorem dX10_total_1 : decode cX10_total 1 = .ok (.iconst 2, 1) := by decide +kernel
theorem dX10_total_2 : decode cX10_total 2 = .ok (.iload_n 1, 1) := by decide +kernel
theorem dX10_total_3 : decode cX10_total 3 = .ok (.imul, 1) := by decide +kernel
theorem dX10_total_4 : decode cX10_total 4 = .ok (.iconst 2, 1) := by decide +kernel
theorem dX10_total_5 : decode cX10_total 5 = .ok (.iload_n 2, 1) := by decide +kernel
theorem dX10_total_6 : decode cX10_total 6 = .ok (.imul, 1) := by decide +kernel
theorem dX10_total_7 : decode cX10_total 7 = .ok (.iconst 1, 1) := by decide +kernel
theorem dX10_total_8 : decode cX10_total 8 = .ok (.iadd, 1) := by decide +kernel
theorem dX10_total_9 : decode cX10_total 9 = .ok (.sipush 224, 3) := by decide +kernel
theorem dX10_total_12 : decode cX10_total 12 = .ok (.invokevirtual 102, 3) := by decide +kernel
theorem dX10_total_15 : decode cX10_total 15 = .ok (.aload_n 0, 1) := by decide +kernel
theorem dX10_total_16 : decode cX10_total 16 = .ok (.iconst 2, 1) := by decide +kernel
theorem dX10_total_17 : decode cX10_total 17 = .ok (.iload_n 2, 1) := by decide +kernel
theorem dX10_total_18 : decode cX10_total 18 = .ok (.imul, 1) := by decide +kernel
theorem dX10_total_19 : decode cX10_total 19 = .ok (.iconst 2, 1) := by decide +kernel
theorem dX10_total_20 : decode cX10_total 20 = .ok (.iload_n 1, 1) := by decide +kernel
theorem dX10_total_21 : decode cX10_total 21 = .ok (.imul, 1) := by decide +kernel
theorem dX10_total_22 : decode cX10_total 22 = .ok (.iconst 1, 1) := by decide +kernel
theorem dX10_total_23 : decode cX10_total 23 = .ok (.iadd, 1) := by decide +kernel
theorem dX10_total_24 : decode cX10_total 24 = .ok (.sipush 225, 3) := by decide +kernel
theorem dX10_total_27 : decode cX10_total 27 = .ok (.invokevirtual 102, 3) := by decide +kernel
theorem dX10_total_30 : decode cX10_total 30 = .ok (.aload_n 0, 1) := by decide +kernel
theorem dX10_total_31 : decode cX10_total 31 = .ok (.iconst 2, 1) := by decide +kernel
theorem dX10_total_32 : decode cX10_total 32 = .ok (.iload_n 1, 1) := by decide +kernel
theorem dX10_total_33 : decode cX10_total 33 = .ok (.imul, 1) := by decide +kernel
theorem dX10_total_34 : decode cX10_total 34 = .ok (.iconst 1, 1) := by decide +kernel
theorem dX10_total_35 : decode cX10_total 35 = .ok (.iadd, 1) := by decide +kernel
theorem dX10_total_36 : decode cX10_total 36 = .ok (.iconst 2, 1) := by decide +kernel
theorem dX10_total_37 : decode cX10_total 37 = .ok (.iload_n 2, 1) := by decide +kernel
theorem dX10_total_38 : decode cX10_total 38 = .ok (.imul, 1) := by decide +kernel
theorem dX10_total_39 : decode cX10_total 39 = .ok (.iconst 1, 1) := by decide +kernel
theorem dX10_total_40 : decode cX10_total 40 = .ok (.iadd, 1) := by decide +kernel
theorem dX10_total_41 : decode cX10_total 41 = .ok (.sipush 226, 3) := by decide +kernel
theorem dX10_total_44 : decode cX10_total 44 = .ok (.invokevirtual 102, 3) := by decide +kernel
theorem dX10_total_47 : decode cX10_total 47 = .ok (.aload_n 0, 1) := by decide +kernel
theorem dX10_total_48 : decode cX10_total 48 = .ok (.getfield 13, 3) := by decide +kernel
theorem dX10_total_51 : decode cX10_total 51 = .ok (.iload_n 2, 1) := by decide +kernel
theorem dX10_total_52 : decode cX10_total 52 = .ok (.baload, 1) := by decide +kernel
theorem dX10_total_53 : decode cX10_total 53 = .ok (.iload 4, 2) := by decide +kernel
theorem dX10_total_55 : decode cX10_total 55 = .ok (.if_icmp .eq 7, 3) := by decide +kernel
theorem dX10_total_58 : decode cX10_total 58 = .ok (.iconst 1, 1) := by decide +kernel
theorem dX10_total_59 : decode cX10_total 59 = .ok (.goto 4, 3) := by decide +kernel
theorem dX10_total_62 : decode cX10_total 62 = .ok (.iconst 0, 1) := by decide +kernel
theorem dX10_total_63 : decode cX10_total 63 = .ok (.istore 5, 2) := by decide +kernel
theorem dX10_total_65 : decode cX10_total 65 = .ok (.aload_n 0, 1) := by decide +kernel
theorem dX10_total_66 : decode cX10_total 66 = .ok (.getfield 13, 3) := by decide +kernel
theorem dX10_total_69 : decode cX10_total 69 = .ok (.iload_n 1, 1) := by decide +kernel
theorem dX10_total_70 : decode cX10_total 70 = .ok (.baload, 1) := by decide +kernel
theorem dX10_total_71 : decode cX10_total 71 = .ok (.istore 6, 2) := by decide +kernel
theorem dX10_total_73 : decode cX10_total 73 = .ok (.iload 6, 2) := by decide +kernel
theorem dX10_total_75 : decode cX10_total 75 = .ok (.iload 5, 2) := by decide +kernel
theorem dX10_total_77 : decode cX10_total 77 = .ok (.if_icmp .ne 19, 3) := by decide +kernel
theorem dX10_total_80 : decode cX10_total 80 = .ok (.aload_n 0, 1) := by decide +kernel
theorem dX10_total_81 : decode cX10_total 81 = .ok (.sipush 224, 3) := by decide +kernel
theorem dX10_total_84 : decode cX10_total 84 = .ok (.sipush 225, 3) := by decide +kernel
theorem dX10_total_87 : decode cX10_total 87 = .ok (.sipush 224, 3) := by decide +kernel
theorem dX10_total_90 : decode cX10_total 90 = .ok (.invokevirtual 106, 3) := by decide +kernel
theorem dX10_total_93 : decode cX10_total 93 = .ok (.goto 53, 3) := by decide +kernel
theorem dX10_total_96 : decode cX10_total 96 = .ok (.aload_n 0, 1) := by decide +kernel
theorem dX10_total_97 : decode cX10_total 97 = .ok (.sipush 224, 3) := by decide +kernel
theorem dX10_total_100 : decode cX10_total 100 = .ok (.sipush 225, 3) := by decide +kernel
theorem dX10_total_103 : decode cX10_total 103 = .ok (.invokevirtual 76, 3) := by decide +kernel
theorem dX10_total_106 : decode cX10_total 106 = .ok (.ifCond .lt 16, 3) := by decide +kernel
theorem dX10_total_109 : decode cX10_total 109 = .ok (.aload_n 0, 1) := by decide +kernel
theorem dX10_total_110 : decode cX10_total 110 = .ok (.sipush 224, 3) := by decide +kernel
theorem dX10_total_113 : decode cX10_total 113 = .ok (.sipush 225, 3) := by decide +kernel
theorem dX10_total_116 : decode cX10_total 116 = .ok (.invokevirtual 79, 3) := by decide +kernel
theorem dX10_total_119 : decode cX10_total 119 = .ok (.goto 27, 3) := by decide +kernel
theorem dX10_total_122 : decode cX10_total 122 = .ok (.aload_n 0, 1) := by decide +kernel
theorem dX10_total_123 : decode cX10_total 123 = .ok (.sipush 225, 3) := by decide +kernel
theorem dX10_total_126 : decode cX10_total 126 = .ok (.sipush 224, 3) := by decide +kernel
theorem dX10_total_129 : decode cX10_total 129 = .ok (.invokevirtual 79, 3) := by decide +kernel
theorem dX10_total_132 : decode cX10_total 132 = .ok (.aload_n 0, 1) := by decide +kernel
theorem dX10_total_133 : decode cX10_total 133 = .ok (.sipush 225, 3) := by decide +kernel
theorem dX10_total_136 : decode cX10_total 136 = .ok (.sipush 224, 3) := by decide +kernel
theorem dX10_total_139 : decode cX10_total 139 = .ok (.invokevirtual 82, 3) := by decide +kernel
theorem dX10_total_142 : decode cX10_total 142 = .ok (.iload 5, 2) := by decide +kernel
theorem dX10_total_144 : decode cX10_total 144 = .ok (.istore 6, 2) := by decide +kernel
theorem dX10_total_146 : decode cX10_total 146 = .ok (.aload_n 0, 1) := by decide +kernel
theorem dX10_total_147 : decode cX10_total 147 = .ok (.sipush 224, 3) := by decide +kernel
theorem dX10_total_150 : decode cX10_total 150 = .ok (.iconst 2, 1) := by decide +kernel
theorem dX10_total_151 : decode cX10_total 151 = .ok (.iload_n 3, 1) := by decide +kernel
theorem dX10_total_152 : decode cX10_total 152 = .ok (.imul, 1) := by decide +kernel
theorem dX10_total_153 : decode cX10_total 153 = .ok (.invokevirtual 82, 3) := by decide +kernel
theorem dX10_total_156 : decode cX10_total 156 = .ok (.aload_n 0, 1) := by decide +kernel
theorem dX10_total_157 : decode cX10_total 157 = .ok (.sipush 226, 3) := by decide +kernel
theorem dX10_total_160 : decode cX10_total 160 = .ok (.iconst 2, 1) := by decide +kernel
theorem dX10_total_161 : decode cX10_total 161 = .ok (.iload_n 3, 1) := by decide +kernel
theorem dX10_total_162 : decode cX10_total 162 = .ok (.imul, 1) := by decide +kernel
theorem dX10_total_163 : decode cX10_total 163 = .ok (.iconst 1, 1) := by decide +kernel
theorem dX10_total_164 : decode cX10_total 164 = .ok (.iadd, 1) := by decide +kernel
theorem dX10_total_165 : decode cX10_total 165 = .ok (.invokevirtual 82, 3) := by decide +kernel
theorem dX10_total_168 : decode cX10_total 168 = .ok (.aload_n 0, 1) := by decide +kernel
theorem dX10_total_169 : decode cX10_total 169 = .ok (.getfield 13, 3) := by decide +kernel
theorem dX10_total_172 : decode cX10_total 172 = .ok (.iload_n 3, 1) := by decide +kernel
theorem dX10_total_173 : decode cX10_total 173 = .ok (.iload 6, 2) := by decide +kernel
theorem dX10_total_175 : decode cX10_total 175 = .ok (.bastore, 1) := by decide +kernel
theorem dX10_total_176 : decode cX10_total 176 = .ok (.aload_n 0, 1) := by decide +kernel
theorem dX10_total_177 : decode cX10_total 177 = .ok (.iload_n 3, 1) := by decide +kernel
theorem dX10_total_178 : decode cX10_total 178 = .ok (.invokevirtual 109, 3) := by decide +kernel
theorem dX10_total_181 : decode cX10_total 181 = .ok (.ireturn, 1) := by decide +kernel
theorem dX10_product_0 : decode cX10_product 0 = .ok (.aload_n 0, 1) := by decide +kernel
theorem dX10_product_1 : decode cX10_product 1 = .ok (.iconst 2, 1) := by decide +kernel
theorem dX10_product_2 : decode cX10_product 2 = .ok (.iload_n 1, 1) := by decide +kernel
theorem dX10_product_3 : decode cX10_product 3 = .ok (.imul, 1) := by decide +kernel
theorem dX10_product_4 : decode cX10_product 4 = .ok (.iconst 2, 1) := by decide +kernel
theorem dX10_product_5 : decode cX10_product 5 = .ok (.iload_n 2, 1) := by decide +kernel
theorem dX10_product_6 : decode cX10_product 6 = .ok (.imul, 1) := by decide +kernel
theorem dX10_product_7 : decode cX10_product 7 = .ok (.sipush 224, 3) := by decide +kernel
theorem dX10_product_10 : decode cX10_product 10 = .ok (.invokevirtual 102, 3) := by decide +kernel
theorem dX10_product_13 : decode cX10_product 13 = .ok (.aload_n 0, 1) := by decide +kernel
theorem dX10_product_14 : decode cX10_product 14 = .ok (.iconst 2, 1) := by decide +kernel
theorem dX10_product_15 : decode cX10_product 15 = .ok (.iload_n 1, 1) := by decide +kernel
theorem dX10_product_16 : decode cX10_product 16 = .ok (.imul, 1) := by decide +kernel
theorem dX10_product_17 : decode cX10_product 17 = .ok (.iconst 1, 1) := by decide +kernel
theorem dX10_product_18 : decode cX10_product 18 = .ok (.iadd, 1) := by decide +kernel
theorem dX10_product_19 : decode cX10_product 19 = .ok (.iconst 2, 1) := by decide +kernel
theorem dX10_product_20 : decode cX10_product 20 = .ok (.iload_n 2, 1) := by decide +kernel
theorem dX10_product_21 : decode cX10_product 21 = .ok (.imul, 1) := by decide +kernel
theorem dX10_product_22 : decode cX10_product 22 = .ok (.iconst 1, 1) := by decide +kernel
theorem dX10_product_23 : decode cX10_product 23 = .ok (.iadd, 1) := by decide +kernel
theorem dX10_product_24 : decode cX10_product 24 = .ok (.sipush 225, 3) := by decide +kernel
theorem dX10_product_27 : decode cX10_product 27 = .ok (.invokevirtual 102, 3) := by decide +kernel
theorem dX10_product_30 : decode cX10_product 30 = .ok (.aload_n 0, 1) := by decide +kernel
theorem dX10_product_31 : decode cX10_product 31 = .ok (.getfield 13, 3) := by decide +kernel
theorem dX10_product_34 : decode cX10_product 34 = .ok (.iload_n 1, 1) := by decide +kernel
theorem dX10_product_35 : decode cX10_product 35 = .ok (.baload, 1) := by decide +kernel
theorem dX10_product_36 : decode cX10_product 36 = .ok (.aload_n 0, 1) := by decide +kernel
theorem dX10_product_37 : decode cX10_product 37 = .ok (.getfield 13, 3) := by decide +kernel
theorem dX10_product_40 : decode cX10_product 40 = .ok (.iload_n 2, 1) := by decide +kernel
theorem dX10_product_41 : decode cX10_product 41 = .ok (.baload, 1) := by decide +kernel
theorem dX10_product_42 : decode cX10_product 42 = .ok (.if_icmp .eq 7, 3) := by decide +kernel
theorem dX10_product_45 : decode cX10_product 45 = .ok (.iconst 1, 1) := by decide +kernel
theorem dX10_product_46 : decode cX10_product 46 = .ok (.goto 4, 3) := by decide +kernel
theorem dX10_product_49 : decode cX10_product 49 = .ok (.iconst 0, 1) := by decide +kernel
theorem dX10_product_50 : decode cX10_product 50 = .ok (.istore 4, 2) := by decide +kernel
theorem dX10_product_52 : decode cX10_product 52 = .ok (.aload_n 0, 1) := by decide +kernel
theorem dX10_product_53 : decode cX10_product 53 = .ok (.sipush 224, 3) := by decide +kernel
theorem dX10_product_56 : decode cX10_product 56 = .ok (.iconst 2, 1) := by decide +kernel
theorem dX10_product_57 : decode cX10_product 57 = .ok (.iload_n 3, 1) := by decide +kernel
theorem dX10_product_58 : decode cX10_product 58 = .ok (.imul, 1) := by decide +kernel
theorem dX10_product_59 : decode cX10_product 59 = .ok (.invokevirtual 82, 3) := by decide +kernel
theorem dX10_product_62 : decode cX10_product 62 = .ok (.aload_n 0, 1) := by decide +kernel
theorem dX10_product_63 : decode cX10_product 63 = .ok (.sipush 225, 3) := by decide +kernel
theorem dX10_product_66 : decode cX10_product 66 = .ok (.iconst 2, 1) := by decide +kernel
theorem dX10_product_67 : decode cX10_product 67 = .ok (.iload_n 3, 1) := by decide +kernel
theorem dX10_product_68 : decode cX10_product 68 = .ok (.imul, 1) := by decide +kernel
theorem dX10_product_69 : decode cX10_product 69 = .ok (.iconst 1, 1) := by decide +kernel
theorem dX10_product_70 : decode cX10_product 70 = .ok (.iadd, 1) := by decide +kernel
theorem dX10_product_71 : decode cX10_product 71 = .ok (.invokevirtual 82, 3) := by decide +kernel
theorem dX10_product_74 : decode cX10_product 74 = .ok (.aload_n 0, 1) := by decide +kernel
theorem dX10_product_75 : decode cX10_product 75 = .ok (.getfield 13, 3) := by decide +kernel
theorem dX10_product_78 : decode cX10_product 78 = .ok (.iload_n 3, 1) := by decide +kernel
theorem dX10_product_79 : decode cX10_product 79 = .ok (.iload 4, 2) := by decide +kernel
theorem dX10_product_81 : decode cX10_product 81 = .ok (.bastore, 1) := by decide +kernel
theorem dX10_product_82 : decode cX10_product 82 = .ok (.aload_n 0, 1) := by decide +kernel
theorem dX10_product_83 : decode cX10_product 83 = .ok (.iload_n 3, 1) := by decide +kernel
theorem dX10_product_84 : decode cX10_product 84 = .ok (.invokevirtual 109, 3) := by decide +kernel
theorem dX10_product_87 : decode cX10_product 87 = .ok (.ireturn, 1) := by decide +kernel
theorem dX10_ratio_0 : decode cX10_ratio 0 = .ok (.aload_n 0, 1) := by decide +kernel
theorem dX10_ratio_1 : decode cX10_ratio 1 = .ok (.iconst 2, 1) := by decide +kernel
theorem dX10_ratio_2 : decode cX10_ratio 2 = .ok (.iload_n 1, 1) := by decide +kernel
theorem dX10_ratio_3 : decode cX10_ratio 3 = .ok (.imul, 1) := by decide +kernel
theorem dX10_ratio_4 : decode cX10_ratio 4 = .ok (.iconst 2, 1) := by decide +kernel
theorem dX10_ratio_5 : decode cX10_ratio 5 = .ok (.iload_n 2, 1) := by decide +kernel
theorem dX10_ratio_6 : decode cX10_ratio 6 = .ok (.imul, 1) := by decide +kernel
theorem dX10_ratio_7 : decode cX10_ratio 7 = .ok (.iconst 1, 1) := by decide +kernel
theorem dX10_ratio_8 : decode cX10_ratio 8 = .ok (.iadd, 1) := by decide +kernel
theorem dX10_ratio_9 : decode cX10_ratio 9 = .ok (.sipush 224, 3) := by decide +kernel
theorem dX10_ratio_12 : decode cX10_ratio 12 = .ok (.invokevirtual 102, 3) := by decide +kernel
theorem dX10_ratio_15 : decode cX10_ratio 15 = .ok (.aload_n 0, 1) := by decide +kernel
theorem dX10_ratio_16 : decode cX10_ratio 16 = .ok (.iconst 2, 1) := by decide +kernel
theorem dX10_ratio_17 : decode cX10_ratio 17 = .ok (.iload_n 1, 1) := by decide +kernel
theorem dX10_ratio_18 : decode cX10_ratio 18 = .ok (.imul, 1) := by decide +kernel
theorem dX10_ratio_19 : decode cX10_ratio 19 = .ok (.iconst 1, 1) := by decide +kernel
theorem dX10_ratio_20 : decode cX10_ratio 20 = .ok (.iadd, 1) := by decide +kernel
theorem dX10_ratio_21 : decode cX10_ratio 21 = .ok (.iconst 2, 1) := by decide +kernel
theorem dX10_ratio_22 : decode cX10_ratio 22 = .ok (.iload_n 2, 1) := by decide +kernel
theorem dX10_ratio_23 : decode cX10_ratio 23 = .ok (.imul, 1) := by decide +kernel
theorem dX10_ratio_24 : decode cX10_ratio 24 = .ok (.sipush 225, 3) := by decide +kernel
theorem dX10_ratio_27 : decode cX10_ratio 27 = .ok (.invokevirtual 102, 3) := by decide +kernel
theorem dX10_ratio_30 : decode cX10_ratio 30 = .ok (.aload_n 0, 1) := by decide +kernel
theorem dX10_ratio_31 : decode cX10_ratio 31 = .ok (.getfield 13, 3) := by decide +kernel
theorem dX10_ratio_34 : decode cX10_ratio 34 = .ok (.iload_n 1, 1) := by decide +kernel
theorem dX10_ratio_35 : decode cX10_ratio 35 = .ok (.baload, 1) := by decide +kernel
theorem dX10_ratio_36 : decode cX10_ratio 36 = .ok (.aload_n 0, 1) := by decide +kernel
theorem dX10_ratio_37 : decode cX10_ratio 37 = .ok (.getfield 13, 3) := by decide +kernel
theorem dX10_ratio_40 : decode cX10_ratio 40 = .ok (.iload_n 2, 1) := by decide +kernel
theorem dX10_ratio_41 : decode cX10_ratio 41 = .ok (.baload, 1) := by decide +kernel
theorem dX10_ratio_42 : decode cX10_ratio 42 = .ok (.if_icmp .eq 7, 3) := by decide +kernel
theorem dX10_ratio_45 : decode cX10_ratio 45 = .ok (.iconst 1, 1) := by decide +kernel
theorem dX10_ratio_46 : decode cX10_ratio 46 = .ok (.goto 4, 3) := by decide +kernel
theorem dX10_ratio_49 : decode cX10_ratio 49 = .ok (.iconst 0, 1) := by decide +kernel
theorem dX10_ratio_50 : decode cX10_ratio 50 = .ok (.istore 4, 2) := by decide +kernel
theorem dX10_ratio_52 : decode cX10_ratio 52 = .ok (.aload_n 0, 1) := by decide +kernel
theorem dX10_ratio_53 : decode cX10_ratio 53 = .ok (.sipush 224, 3) := by decide +kernel
theorem dX10_ratio_56 : decode cX10_ratio 56 = .ok (.iconst 2, 1) := by decide +kernel
theorem dX10_ratio_57 : decode cX10_ratio 57 = .ok (.iload_n 3, 1) := by decide +kernel
theorem dX10_ratio_58 : decode cX10_ratio 58 = .ok (.imul, 1) := by decide +kernel
theorem dX10_ratio_59 : decode cX10_ratio 59 = .ok (.invokevirtual 82, 3) := by decide +kernel
theorem dX10_ratio_62 : decode cX10_ratio 62 = .ok (.aload_n 0, 1) := by decide +kernel
theorem dX10_ratio_63 : decode cX10_ratio 63 = .ok (.sipush 225, 3) := by decide +kernel
theorem dX10_ratio_66 : decode cX10_ratio 66 = .ok (.iconst 2, 1) := by decide +kernel
theorem dX10_ratio_67 : decode cX10_ratio 67 = .ok (.iload_n 3, 1) := by decide +kernel
theorem dX10_ratio_68 : decode cX10_ratio 68 = .ok (.imul, 1) := by decide +kernel
theorem dX10_ratio_69 : decode cX10_ratio 69 = .ok (.iconst 1, 1) := by decide +kernel
theorem dX10_ratio_70 : decode cX10_ratio 70 = .ok (.iadd, 1) := by decide +kernel
theorem dX10_ratio_71 : decode cX10_ratio 71 = .ok (.invokevirtual 82, 3) := by decide +kernel
theorem dX10_ratio_74 : decode cX10_ratio 74 = .ok (.aload_n 0, 1) := by decide +kernel
theorem dX10_ratio_75 : decode cX10_ratio 75 = .ok (.getfield 13, 3) := by decide +kernel
theorem dX10_ratio_78 : decode cX10_ratio 78 = .ok (.iload_n 3, 1) := by decide +kernel
theorem dX10_ratio_79 : decode cX10_ratio 79 = .ok (.iload 4, 2) := by decide +kernel
theorem dX10_ratio_81 : decode cX10_ratio 81 = .ok (.bastore, 1) := by decide +kernel
theorem dX10_ratio_82 : decode cX10_ratio 82 = .ok (.aload_n 0, 1) := by decide +kernel
theorem dX10_ratio_83 : decode cX10_ratio 83 = .ok (.iload_n 3, 1) := by decide +kernel
theorem dX10_ratio_84 : decode cX10_ratio 84 = .ok (.invokevirtual 109, 3) := by decide +kernel
theorem dX10_ratio_87 : decode cX10_ratio 87 = .ok (.ireturn, 1) := by decide +kernel
theorem dX10_setFraction_0 : decode cX10_setFraction 0 = .ok (.aload_n 0, 1) := by decide +kernel
theorem dX10_setFraction_1 : decode cX10_setFraction 1 = .ok (.iconst 2, 1) := by decide +kernel
theorem dX10_setFraction_2 : decode cX10_setFraction 2 = .ok (.iload_n 1, 1) := by decide +kernel
theorem dX10_setFraction_3 : decode cX10_setFraction 3 = .ok (.imul, 1) := by decide +kernel
theorem dX10_setFraction_4 : decode cX10_setFraction 4 = .ok (.lload_n 2, 1) := by decide +kernel
theorem dX10_setFraction_5 : decode cX10_setFraction 5 = .ok (.invokevirtual 112, 3) := by decide +kernel
theorem dX10_setFraction_8 : decode cX10_setFraction 8 = .ok (.aload_n 0, 1) := by decide +kernel
theorem dX10_setFraction_9 : decode cX10_setFraction 9 = .ok (.iconst 2, 1) := by decide +kernel
theorem dX10_setFraction_10 : decode cX10_setFraction 10 = .ok (.iload_n 1, 1) := by decide +kernel
theorem dX10_setFraction_11 : decode cX10_setFraction 11 = .ok (.imul, 1) := by decide +kernel
theorem dX10_setFraction_12 : decode cX10_setFraction 12 = .ok (.iconst 1, 1) := by decide +kernel
theorem dX10_setFraction_13 : decode cX10_setFraction 13 = .ok (.iadd, 1) := by decide +kernel
theorem dX10_setFraction_14 : decode cX10_setFraction 14 = .ok (.lload 4, 2) := by decide +kernel
theorem dX10_setFraction_16 : decode cX10_setFraction 16 = .ok (.invokevirtual 112, 3) := by decide +kernel
theorem dX10_setFraction_19 : decode cX10_setFraction 19 = .ok (.aload_n 0, 1) := by decide +kernel
theorem dX10_setFraction_20 : decode cX10_setFraction 20 = .ok (.getfield 13, 3) := by decide +kernel
theorem dX10_setFraction_23 : decode cX10_setFraction 23 = .ok (.iload_n 1, 1) := by decide +kernel
theorem dX10_setFraction_24 : decode cX10_setFraction 24 = .ok (.lload_n 2, 1) := by decide +kernel
theorem dX10_setFraction_25 : decode cX10_setFraction 25 = .ok (.lconst 0, 1) := by decide +kernel
theorem dX10_setFraction_26 : decode cX10_setFraction 26 = .ok (.lcmp, 1) := by decide +kernel
